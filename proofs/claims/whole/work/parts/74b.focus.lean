/-! The model by states: one neighbour in focus. -/
section ZFocus
def foc (q : hT) (j : Nat) (x : zND) (u : hOu) : hT := tU (tN q (q.2.2.2.1.set j x)) u
theorem foc_self {q : hT} {j : Nat} {x : zND} (hx : q.2.2.2.1[j]? = some x) : foc q j x q.2.1 = q := by
  unfold foc
  rw [zset_self hx]
  rfl
theorem foc_at {q : hT} {j : Nat} {x : zND} {u : hOu} (hj : j < q.2.2.2.1.length) : (foc q j x u).2.2.2.1[j]? = some x := by
  show (q.2.2.2.1.set j x)[j]? = _
  rw [List.getElem?_set, if_pos rfl, if_pos hj]
theorem foc_set {q : hT} {j : Nat} {x y : zND} {u : hOu} : tN (foc q j x u) ((foc q j x u).2.2.2.1.set j y) = foc q j y u := by
  show tU (tN q ((q.2.2.2.1.set j x).set j y)) u = _
  rw [List.set_set]
  rfl
theorem foc_number {q : hT} {t : Int32} {m : Nat → Int32} {F : Nat → Nat → Int32} {j : Nat} {x : zND} {u : hOu} {v : Int32} (h : mR (foc q j x u) t m F) (hj : j < q.2.2.2.1.length) : mR (foc q j (x.1, v, x.2.2) u) t m (mup F 20 (upd (F 20) j v)) := by
  have h1 := h.number (v := v) (foc_at hj)
  rw [foc_set] at h1
  exact h1
theorem toldN_if {q : hT} {a n fl : Int32} {j : Nat} {x : zND} (hix : nbIx q.2.2.2.1 a j x) (hc : ¬ x.2.2.1 = 1 ∧ ¬ x.2.1 = n ∧ fl &&& 4 = 0) : toldN q a n fl = foc q j (if x.2.2.1 = 2 then ndS x 3 q.1.2.1 else x) q.2.1 := by
  unfold toldN
  rw [hix.find]
  show (if ¬ x.2.2.1 = 1 ∧ ¬ x.2.1 = n ∧ fl &&& 4 = 0 then _ else _) = _
  rw [if_pos hc, hix.set1]
  rfl
theorem toldN_else {q : hT} {a n fl : Int32} {j : Nat} {x : zND} (hix : nbIx q.2.2.2.1 a j x) (hc : ¬ (¬ x.2.2.1 = 1 ∧ ¬ x.2.1 = n ∧ fl &&& 4 = 0)) : toldN q a n fl = tR (foc q j (ndR (hnX q.1.2.1 n fl x) (!decide (fl &&& 1 = 0))) (hnU q.2.1 x)) (rdrop q.2.2.2.2.1 (hnX q.1.2.1 n fl x) (!decide (fl &&& 1 = 0))) := by
  unfold toldN
  rw [hix.find]
  show (if ¬ x.2.2.1 = 1 ∧ ¬ x.2.1 = n ∧ fl &&& 4 = 0 then _ else _) = _
  rw [if_neg hc, hix.set1]
  rfl
end ZFocus
section ZFocus2
variable {g : zG} {ws : va_W} {post : Option Value → va_W → Prop} {B : Nat → Nat} {q : hT} {t : Int32} {R : va_W}
theorem f_turn {j : Nat} {x : zND} {u : hOu} {s : Int32} (h : mS g B (foc q j x u) t R ws) (hj : j < q.2.2.2.1.length) (k : ∀ w, mS g B (foc q j (ndS x s q.1.2.1) u) t R w → post none w) : zC g i_Mo_turn [.ref (B 0), .int (nI j), .int s] ws post := by
  refine l_turn h (foc_at hj) fun w hw => k w ?_
  rw [foc_set] at hw
  exact hw
theorem f_release {j : Nat} {x : zND} {u : hOu} (h : mS g B (foc q j x u) t R ws) (hj : j < q.2.2.2.1.length) (hu : u.1 < 2147483648) (h0 : ¬ x.2.2.2.2.2 < 0) (k : ∀ w, mS g B (foc q j (swX q.1.2.1 x) (swU u x)) t R w → post none w) : zC g i_Mo_release [.ref (B 0), .int (nI j)] ws post := by
  refine l_release h hu (foc_at hj) h0 fun w hw => k w ?_
  rw [foc_set] at hw
  exact hw
theorem f_route {j : Nat} {x : zND} {u : hOu} (b : Bool) (h : mS g B (foc q j x u) t R ws) (hj : j < q.2.2.2.1.length) (hn : nd q.2.2.2.2.1) (k : ∀ w, mS g B (tR (foc q j (ndR x b) u) (rdrop q.2.2.2.2.1 x b)) t R w → post none w) : zC g i_Mo_route [.ref (B 0), .int (nI j), .int (zb b)] ws post := by
  refine l_route h (foc_at hj) hn fun w hw => k w ?_
  rw [foc_set] at hw
  exact hw
end ZFocus2
