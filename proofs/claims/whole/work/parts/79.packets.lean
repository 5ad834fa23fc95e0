/-! Packets: what the model's loops find, against the class's. -/
section ZPackets
theorem hopT_ne {ro : List zTD} {nb : List zND} (h0 : ∀ x ∈ ro, x.1 ≠ 0) (hne : ro ≠ []) : hopT ro nb ≠ 0 := by
  unfold hopT
  split
  · rename_i r hr
    exact h0 r (List.mem_of_find?_eq_some hr)
  · cases ro with
    | nil => exact absurd rfl hne
    | cons r l => exact h0 r List.mem_cons_self
theorem hopT_at {done rest : List zTD} {x : zTD} {nb : List zND} (hno : ∀ y ∈ done, routeP nb y = false) (hx : routeP nb x = true) : hopT (done ++ x :: rest) nb = x.1 := by
  unfold hopT
  rw [List.find?_append, List.find?_eq_none.mpr (fun y hy => by rw [hno y hy]; decide), List.find?_cons_of_pos hx]
  rfl
theorem hopT_no {r : zTD} {l : List zTD} {nb : List zND} (hno : ∀ y ∈ r :: l, routeP nb y = false) : hopT (r :: l) nb = r.1 := by
  unfold hopT
  rw [List.find?_eq_none.mpr (fun y hy => by rw [hno y hy]; decide)]
theorem routeP_some {nb : List zND} {r : zTD} {x : zND} (h : nb.find? (fun e => decide (e.1 = r.1)) = some x) : routeP nb r = !decide (x.2.2.1 = 1) := by
  unfold routeP
  rw [h]
theorem routeP_none {nb : List zND} {r : zTD} (h : nb.find? (fun e => decide (e.1 = r.1)) = none) : routeP nb r = false := by
  unfold routeP
  rw [h]
/-- what the model makes of a header -/
def lkV (kd x : Int32) (i : Nat) (gr : Bool) : Int32 :=
  if kd = 0 then (if i = 0 then (if x < 2 then x else if x = 2 ∨ gr = false then 4 else 1) else 3)
  else if kd = 1 then (if x < 2 then x else if x = 2 ∨ gr = false then 4 else 1)
  else if kd = 2 then (if x = 0 then 0 else 2)
  else if kd = 3 then (if x = 0 then 0 else 1)
  else if kd = 4 ∨ kd = 5 ∨ kd = 6 then 1 else 3
theorem faultT_clear (q : hT) (i f fr : Int32) (gr : Bool) : clearT (faultT q i f fr gr) = faultT (clearT q) i f fr gr := by
  unfold faultT
  by_cases h : (gr = false ∨ f = 2) ∧ ¬ fr = 0 ∧ ¬ q.1.2.2.2.2.2.1 ≤ 0
  · rw [if_pos h, if_pos (show (gr = false ∨ f = 2) ∧ ¬ fr = 0 ∧ ¬ (clearT q).1.2.2.2.2.2.1 ≤ 0 from h)]
    rfl
  · rw [if_neg h, if_neg (show ¬ ((gr = false ∨ f = 2) ∧ ¬ fr = 0 ∧ ¬ (clearT q).1.2.2.2.2.2.1 ≤ 0) from h)]
def stepM1 (q : hT) (v : Int32) (i : Nat) (fr : Int32) (gr : Bool) : hT := if v ≤ 1 then q else faultT q (nI i) (v - 2) fr gr
def stepM2 (q : hT) (kd x fr : Int32) : hT := if kd = 5 ∧ ¬ fr = 0 then tU q (ouAdd q.2.1 5 fr x) else q
def stepM3 (q : hT) (kd : Int32) : hT := tS q (q.1.1, q.1.2.1, q.1.2.2.1, q.1.2.2.2.1, q.1.2.2.2.2.1 + (if kd = 6 then 1 else 0), q.1.2.2.2.2.2)
theorem stepM3_no {q : hT} {kd : Int32} (h : ¬ kd = 6) : stepM3 q kd = q := by
  unfold stepM3
  rw [if_neg h, Int32.add_zero]
  rfl
theorem stepM2_no {q : hT} {kd x fr : Int32} (h : ¬ kd = 5) : stepM2 q kd x fr = q := by
  unfold stepM2
  rw [if_neg (fun hh => h hh.1)]
theorem x03 {x : Int32} (h : zwithin x 0 3 = true) : x = 0 ∨ x = 1 ∨ x = 2 ∨ x = 3 := by
  obtain ⟨k, rfl, h1, h2⟩ := zwithin_nI (a := 0) (b := 3) (by omega) (by omega) h
  have : k = 0 ∨ k = 1 ∨ k = 2 ∨ k = 3 := by omega
  rcases this with rfl | rfl | rfl | rfl
  · exact .inl rfl
  · exact .inr (.inl rfl)
  · exact .inr (.inr (.inl rfl))
  · exact .inr (.inr (.inr rfl))
theorem opt_go {q : hT} {x fr : Int32} {i : Nat} {gr : Bool} (hx : zwithin x 0 3 = true) : decide (x = 0) = decide ((if x < 2 then x else if x = 2 ∨ gr = false then 4 else 1) = 0) ∧ clearT (if x = 2 ∨ (x = 3 ∧ gr = false) then faultT q (nI i) 2 fr gr else q) = stepM1 (clearT q) (if x < 2 then x else if x = 2 ∨ gr = false then 4 else 1) i fr gr := by
  unfold stepM1
  rcases x03 hx with rfl | rfl | rfl | rfl
  · rw [if_pos (show (0 : Int32) < 2 by decide), if_pos (show (0 : Int32) ≤ 1 by decide), if_neg (fun hh => hh.elim (by decide) (fun h => absurd h.1 (by decide)))]
    exact ⟨rfl, rfl⟩
  · rw [if_pos (show (1 : Int32) < 2 by decide), if_pos (show (1 : Int32) ≤ 1 by decide), if_neg (fun hh => hh.elim (by decide) (fun h => absurd h.1 (by decide)))]
    exact ⟨rfl, rfl⟩
  · rw [if_neg (show ¬ (2 : Int32) < 2 by decide), if_pos (show (2 : Int32) = 2 ∨ gr = false from .inl rfl), if_pos (show (2 : Int32) = 2 ∨ ((2 : Int32) = 3 ∧ gr = false) from .inl rfl), if_neg (show ¬ (4 : Int32) ≤ 1 by decide), faultT_clear]
    exact ⟨rfl, rfl⟩
  · cases gr
    · rw [if_neg (show ¬ (3 : Int32) < 2 by decide), if_pos (show (3 : Int32) = 2 ∨ false = false from .inr rfl), if_pos (show (3 : Int32) = 2 ∨ ((3 : Int32) = 3 ∧ false = false) from .inr ⟨rfl, rfl⟩), if_neg (show ¬ (4 : Int32) ≤ 1 by decide), faultT_clear]
      exact ⟨rfl, rfl⟩
    · rw [if_neg (show ¬ (3 : Int32) < 2 by decide), if_neg (show ¬ ((3 : Int32) = 2 ∨ true = false) by decide), if_neg (show ¬ ((3 : Int32) = 2 ∨ ((3 : Int32) = 3 ∧ true = false)) by decide), if_pos (show (1 : Int32) ≤ 1 by decide)]
      exact ⟨rfl, rfl⟩
theorem go_fault {q : hT} {i : Nat} {fr : Int32} {gr : Bool} {v f : Int32} (hv : ¬ v ≤ 1) (hf : v - 2 = f) (h0 : ¬ v = 0) : false = decide (v = 0) ∧ clearT (faultT q (nI i) f fr gr) = stepM1 (clearT q) v i fr gr := by
  unfold stepM1
  rw [if_neg hv, faultT_clear, hf]
  exact ⟨(decide_eq_false h0).symm, rfl⟩
theorem go_look {q : hT} {i : Nat} {fr : Int32} {gr : Bool} (hx : zwithin (q.2.2.2.2.2.2.2.2.2 i) 0 3 = true) : (goT q i fr gr).1 = decide (lkV (q.2.2.2.2.2.2.2.2.1 i) (q.2.2.2.2.2.2.2.2.2 i) i gr = 0) ∧ clearT (goT q i fr gr).2 = stepM3 (stepM2 (stepM1 (clearT q) (lkV (q.2.2.2.2.2.2.2.2.1 i) (q.2.2.2.2.2.2.2.2.2 i) i gr) i fr gr) (q.2.2.2.2.2.2.2.2.1 i) (q.2.2.2.2.2.2.2.2.2 i) fr) (q.2.2.2.2.2.2.2.2.1 i) := by
  unfold goT hkind
  simp only
  generalize hkd : q.2.2.2.2.2.2.2.2.1 i = kd
  generalize hxx : q.2.2.2.2.2.2.2.2.2 i = x at hx
  have m1 : ∀ {v : Int32}, v ≤ 1 → stepM1 (clearT q) v i fr gr = clearT q := fun {v} hv => by unfold stepM1; rw [if_pos hv]
  by_cases h0 : kd = 0
  · rw [stepM3_no (by rw [h0]; decide), stepM2_no (by rw [h0]; decide)]
    by_cases hi : i = 0
    · have hl : lkV kd x i gr = if x < 2 then x else if x = 2 ∨ gr = false then 4 else 1 := by unfold lkV; rw [if_pos h0, if_pos hi]
      have hk : (if kd = 0 ∧ i = 0 then 1 else kd) = 1 := if_pos ⟨h0, hi⟩
      rw [hl, hk, if_pos (show (1 : Int32) = 1 from rfl)]
      exact opt_go hx
    · have hl : lkV kd x i gr = 3 := by unfold lkV; rw [if_pos h0, if_neg hi]
      have hk : (if kd = 0 ∧ i = 0 then 1 else kd) = 0 := by rw [if_neg (fun hh => hi hh.2)]; exact h0
      rw [hl, hk, if_neg (show ¬ (0 : Int32) = 1 by decide), if_neg (show ¬ (0 : Int32) = 2 by decide), if_neg (show ¬ (0 : Int32) = 3 by decide), if_neg (show ¬ (0 : Int32) = 4 by decide), if_neg (show ¬ (0 : Int32) = 5 by decide), if_neg (show ¬ (0 : Int32) = 6 by decide)]
      exact go_fault (by decide) (by decide) (by decide)
  · have hk : (if kd = 0 ∧ i = 0 then 1 else kd) = kd := if_neg (fun hh => h0 hh.1)
    rw [hk]
    by_cases h1 : kd = 1
    · have hl : lkV kd x i gr = if x < 2 then x else if x = 2 ∨ gr = false then 4 else 1 := by unfold lkV; rw [if_neg h0, if_pos h1]
      rw [hl, if_pos h1, stepM3_no (by rw [h1]; decide), stepM2_no (by rw [h1]; decide)]
      exact opt_go hx
    · rw [if_neg h1]
      by_cases h2 : kd = 2
      · rw [if_pos h2, stepM3_no (by rw [h2]; decide), stepM2_no (by rw [h2]; decide)]
        by_cases hx0 : x = 0
        · have hl : lkV kd x i gr = 0 := by unfold lkV; rw [if_neg h0, if_neg h1, if_pos h2, if_pos hx0]
          rw [hl, if_pos hx0, m1 (by decide)]
          exact ⟨by rw [decide_eq_true hx0]; rfl, rfl⟩
        · have hl : lkV kd x i gr = 2 := by unfold lkV; rw [if_neg h0, if_neg h1, if_pos h2, if_neg hx0]
          rw [hl, if_neg hx0, decide_eq_false hx0]
          exact go_fault (by decide) (by decide) (by decide)
      · rw [if_neg h2]
        by_cases h3 : kd = 3
        · rw [if_pos h3, stepM3_no (by rw [h3]; decide), stepM2_no (by rw [h3]; decide)]
          by_cases hx0 : x = 0
          · have hl : lkV kd x i gr = 0 := by unfold lkV; rw [if_neg h0, if_neg h1, if_neg h2, if_pos h3, if_pos hx0]
            rw [hl, m1 (by decide)]
            exact ⟨by rw [decide_eq_true hx0]; rfl, rfl⟩
          · have hl : lkV kd x i gr = 1 := by unfold lkV; rw [if_neg h0, if_neg h1, if_neg h2, if_pos h3, if_neg hx0]
            rw [hl, m1 (by decide)]
            exact ⟨by rw [decide_eq_false hx0]; rfl, rfl⟩
        · rw [if_neg h3]
          by_cases h4 : kd = 4
          · have hl : lkV kd x i gr = 1 := by unfold lkV; rw [if_neg h0, if_neg h1, if_neg h2, if_neg h3, if_pos (.inl h4)]
            rw [hl, if_pos h4, stepM3_no (by rw [h4]; decide), stepM2_no (by rw [h4]; decide), m1 (by decide)]
            exact ⟨rfl, rfl⟩
          · rw [if_neg h4]
            by_cases h5 : kd = 5
            · have hl : lkV kd x i gr = 1 := by unfold lkV; rw [if_neg h0, if_neg h1, if_neg h2, if_neg h3, if_pos (.inr (.inl h5))]
              rw [hl, if_pos h5, stepM3_no (by rw [h5]; decide), m1 (by decide)]
              refine ⟨rfl, ?_⟩
              unfold stepM2
              by_cases hf : fr = 0
              · rw [if_pos hf, if_neg (fun hh => hh.2 hf)]
              · rw [if_neg hf, if_pos ⟨h5, hf⟩]
                rfl
            · rw [if_neg h5]
              by_cases h6 : kd = 6
              · have hl : lkV kd x i gr = 1 := by unfold lkV; rw [if_neg h0, if_neg h1, if_neg h2, if_neg h3, if_pos (.inr (.inr h6))]
                rw [hl, if_pos h6, stepM2_no h5, m1 (by decide)]
                refine ⟨rfl, ?_⟩
                unfold stepM3
                rw [if_pos h6]
                rfl
              · have hl : lkV kd x i gr = 3 := by unfold lkV; rw [if_neg h0, if_neg h1, if_neg h2, if_neg h3, if_neg (fun hh => hh.elim h4 (fun h => h.elim h5 h6))]
                rw [hl, if_neg h6, stepM3_no h6, stepM2_no h5]
                exact go_fault (by decide) (by decide) (by decide)
theorem zsw_0_6 (k : Int32) : k = 0 ∨ k = 1 ∨ k = 2 ∨ k = 3 ∨ k = 4 ∨ k = 5 ∨ k = 6 ∨ (k.toInt < 0 ∨ 6 < k.toInt) := by
  have h : k.toInt = 0 ∨ k.toInt = 1 ∨ k.toInt = 2 ∨ k.toInt = 3 ∨ k.toInt = 4 ∨ k.toInt = 5 ∨ k.toInt = 6 ∨ (k.toInt < 0 ∨ 6 < k.toInt) := by omega
  rcases h with h | h | h | h | h | h | h | h
  · exact .inl (Int32.toInt_inj.mp h)
  · exact .inr (.inl (Int32.toInt_inj.mp h))
  · exact .inr (.inr (.inl (Int32.toInt_inj.mp h)))
  · exact .inr (.inr (.inr (.inl (Int32.toInt_inj.mp h))))
  · exact .inr (.inr (.inr (.inr (.inl (Int32.toInt_inj.mp h)))))
  · exact .inr (.inr (.inr (.inr (.inr (.inl (Int32.toInt_inj.mp h))))))
  · exact .inr (.inr (.inr (.inr (.inr (.inr (.inl (Int32.toInt_inj.mp h)))))))
  · exact .inr (.inr (.inr (.inr (.inr (.inr (.inr h))))))
theorem zout06 {k : Int32} (h : k.toInt < 0 ∨ 6 < k.toInt) : ¬ k = 0 ∧ ¬ k = 1 ∧ ¬ k = 2 ∧ ¬ k = 3 ∧ ¬ k = 4 ∧ ¬ k = 5 ∧ ¬ k = 6 := by
  refine ⟨?_, ?_, ?_, ?_, ?_, ?_, ?_⟩ <;> (intro e; subst e; revert h; decide)
/-- the answer of send, by its roads -/
theorem sendQ_4 {q : hT} {a n : Int32} (h : q.2.2.1.any (fun x => zusable x.2.2.1 && (zlocal x.1 == zlocal a)) = false) : sendQ q a n = (4, q) := by
  unfold sendQ
  rw [if_pos h]
theorem sendQ_2 {q : hT} {a n : Int32} (h : q.2.2.1.any (fun x => zusable x.2.2.1 && (zlocal x.1 == zlocal a)) = true) (h2 : ¬ n ≤ sizeT q a) : sendQ q a n = (2, q) := by
  unfold sendQ
  rw [if_neg (by rw [h]; decide), if_pos (Int32.not_le.mp h2)]
theorem sendQ_r {q : hT} {a n : Int32} (h : q.2.2.1.any (fun x => zusable x.2.2.1 && (zlocal x.1 == zlocal a)) = true) (h2 : n ≤ sizeT q a) : sendQ q a n = if (if onLinkT q a then a else hopT q.2.2.2.2.1 q.2.2.2.1) = 0 then (3, q) else sendT q (if onLinkT q a then a else hopT q.2.2.2.2.1 q.2.2.2.1) n := by
  unfold sendQ
  rw [if_neg (by rw [h]; decide), if_neg (Int32.not_lt.mpr h2)]
theorem zaddr_ne0 {a : Int32} (h : zaddr a = true) : a ≠ 0 := by
  intro h0
  rw [h0] at h
  exact absurd h (by decide)
end ZPackets
