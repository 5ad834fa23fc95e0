/-! How the model ages what it keeps, against how the class does: one at a time. -/
section ZAges
theorem col.n {α : Type} {f : Nat → Int32} {φ : α → Int32} {l : List α} {j : Nat} {x : α} (h : col f φ l) (hx : l[j]? = some x) (hj : j < 2147483648) : f (nI j).toNatClampNeg = φ x := by
  rw [nI_clamp hj]
  exact h j x hx
theorem mR.ow {q : hT} {t : Int32} {m : Nat → Int32} {F : Nat → Nat → Int32} {j : Nat} {x : zOD} (hr : mR q t m F) (hx : q.2.2.1[j]? = some x) : F 13 (nI j).toNatClampNeg = x.1 ∧ F 14 (nI j).toNatClampNeg = x.2.2.1 ∧ F 15 (nI j).toNatClampNeg = x.2.1 ∧ F 16 (nI j).toNatClampNeg = cv x.2.2.2.2 ∧ F 17 (nI j).toNatClampNeg = cv x.2.2.2.1 ∧ j < 6 := by
  obtain ⟨g0, g1, g2, g3, g4, g5, g6⟩ := hr.2.2.1
  have h1 := (List.getElem?_eq_some_iff.mp hx).1
  exact ⟨g2.n hx (by omega), g3.n hx (by omega), g4.n hx (by omega), g5.n hx (by omega), g6.n hx (by omega), by omega⟩
theorem mR.nb {q : hT} {t : Int32} {m : Nat → Int32} {F : Nat → Nat → Int32} {j : Nat} {x : zND} (hr : mR q t m F) (hx : q.2.2.2.1[j]? = some x) : F 19 (nI j).toNatClampNeg = x.1 ∧ F 20 (nI j).toNatClampNeg = x.2.1 ∧ F 21 (nI j).toNatClampNeg = zb x.2.2.2.2.1 ∧ F 22 (nI j).toNatClampNeg = x.2.2.1 ∧ F 23 (nI j).toNatClampNeg = x.2.2.2.1 ∧ F 24 (nI j).toNatClampNeg = x.2.2.2.2.2 ∧ j < 7 := by
  obtain ⟨g0, g1, gz, g2, g3, g4, g5, g6, g7⟩ := hr.2.2.2.1
  have h1 := (List.getElem?_eq_some_iff.mp hx).1
  exact ⟨g2.n hx (by omega), g3.n hx (by omega), g4.n hx (by omega), g5.n hx (by omega), g6.n hx (by omega), g7.n hx (by omega), by omega⟩
theorem mid {α : Type} (a r : List α) (x : α) : (a ++ x :: r)[a.length]? = some x := by
  rw [List.getElem?_append_right (Nat.le_refl _), Nat.sub_self, List.getElem?_cons_zero]
theorem mid_erase {α : Type} (a r : List α) (x : α) : (a ++ x :: r).eraseIdx a.length = a ++ r := by
  rw [List.eraseIdx_append_of_length_le (Nat.le_refl _), Nat.sub_self, List.eraseIdx_cons_zero]
theorem mid_set {α : Type} (a r : List α) (x y : α) : (a ++ x :: r).set a.length y = a ++ [y] ++ r := by
  rw [List.set_append_right _ _ (Nat.le_refl _), Nat.sub_self, List.set_cons_zero, List.append_assoc]
  rfl
theorem mid_next {α : Type} (a r : List α) (x : α) : a ++ x :: r = (a ++ [x]) ++ r := by rw [List.append_assoc]; rfl
theorem c_small {c : Nat} (h : c < 1000000) : nI c < 2000000000 := (klt (k := 2000000000) (by omega) (by omega)).mpr (by omega)
/-- an own address that ages: told again; comes to its state; stays -/
theorem own_again {c : Nat} {x : zOD} (h1 : x.2.2.1 = 1) (hb : nI (c + 1) = x.2.1 + 1) : oaP (nI (c + 1)) x = true ∧ oaA (nI (c + 1)) x = x := by
  have e : nI (c + 1) - x.2.1 = 1 := by rw [hb, Int32.add_comm, Int32.add_sub_cancel]
  have h2 : ¬ (2 : Int32) ≤ nI (c + 1) - x.2.1 := by rw [e]; decide
  constructor
  · unfold oaP
    rw [decide_eq_true h1, decide_eq_false h2]
    rfl
  · unfold oaA
    rw [if_neg (fun h => by rw [h1] at h; exact absurd h.1 (by decide)), if_neg (fun h => h2 h.2)]
theorem own_fit {c : Nat} {x : zOD} (hc : c < 1000000 - 1) (hx : oI c false x) (h1 : ¬ (x.2.2.1 = 1 ∧ nI (c + 1) = x.2.1 + 1)) (h2 : x.2.2.1 = 1 ∨ x.2.2.1 = 2) : oaP (nI (c + 1)) x = false ∧ oaA (nI (c + 1)) x = oaS x (if cv x.2.2.2.2 ≤ nI (c + 1) then 3 else 2) := by
  have hle : cv x.2.2.2.2 ≤ nI (c + 1) ↔ ¬ nI (c + 1) < x.2.2.2.2 := cv_le (c_small (by omega))
  rcases h2 with h2 | h2
  · obtain ⟨b, e1, e2, e3⟩ := hx.2 rfl h2
    have h3 : ¬ nI (c + 1) = nI b + 1 := fun h => h1 ⟨h2, by rw [e1]; exact h⟩
    rw [nI_1] at h3
    have h4 : c + 1 ≠ b + 1 := fun h => h3 (by rw [h])
    have h5 : (2 : Int32) ≤ nI (c + 1) - x.2.1 := by
      rw [e1, tsub (by omega)]
      exact (kle (a := 2) (by omega) (by omega)).mpr (by omega)
    constructor
    · unfold oaP
      rw [decide_eq_true h5]
      simp
    · unfold oaA
      rw [if_neg (fun h => by rw [h2] at h; exact absurd h.1 (by decide)), if_pos ⟨h2, h5⟩]
      by_cases hp : nI (c + 1) < x.2.2.2.2
      · rw [if_pos hp, if_neg (fun h => (hle.mp h) hp)]
      · rw [if_neg hp, if_pos (hle.mpr hp)]
  · constructor
    · unfold oaP
      rw [h2]
      rfl
    · unfold oaA
      by_cases hp : nI (c + 1) < x.2.2.2.2
      · rw [if_neg (fun h => h.2 hp), if_neg (fun h => by rw [h2] at h; exact absurd h.1 (by decide)), if_neg (fun h => (hle.mp h) hp)]
        unfold oaS
        rw [← h2]
      · rw [if_pos ⟨h2, hp⟩, if_pos (hle.mpr hp)]
theorem own_stay {t : Int32} {x : zOD} (h1 : ¬ x.2.2.1 = 1) (h2 : ¬ x.2.2.1 = 2) : oaP t x = false ∧ oaA t x = x := by
  constructor
  · unfold oaP
    rw [decide_eq_false h1]
    rfl
  · unfold oaA
    rw [if_neg (fun h => h2 h.1), if_neg (fun h => h1 h.1)]
/-- a neighbour that ages -/
theorem nb_gone {c : Nat} {x : zND} (ha : zasked x.2.2.1 = true) (h3 : nI (c + 1) - x.2.2.2.1 = 3) : zgone (nI (c + 1)) (ndA (nI (c + 1)) x) = true ∧ ndQ (nI (c + 1)) x = false ∧ ndA (nI (c + 1)) x = x := by
  have e : ndA (nI (c + 1)) x = x := by unfold ndA; rw [if_pos ha]
  refine ⟨?_, ?_, e⟩
  · rw [e]
    unfold zgone
    rw [ha, h3]
    rfl
  · unfold ndQ
    rw [if_pos ha, h3]
    rfl
theorem nb_ask {c : Nat} {x : zND} (hc : c < 1000000 - 1) (hx : nV c false x) (ha : zasked x.2.2.1 = true) (h3 : ¬ nI (c + 1) - x.2.2.2.1 = 3) : zgone (nI (c + 1)) (ndA (nI (c + 1)) x) = false ∧ ndQ (nI (c + 1)) x = true ∧ ndA (nI (c + 1)) x = x := by
  have e : ndA (nI (c + 1)) x = x := by unfold ndA; rw [if_pos ha]
  obtain ⟨b, e1, e2, e3, e4, e5⟩ := hx.2.2.2 rfl
  have h15 : x.2.2.1 = 1 ∨ x.2.2.1 = 5 := by
    unfold zasked at ha
    simpa using ha
  have hb := e3 h15
  rw [e1, tsub (by omega)] at h3
  have h4 : c + 1 - b ≠ 3 := fun h => h3 (by rw [h]; rfl)
  have h5 : nI (c + 1) - x.2.2.2.1 < 3 := by
    rw [e1, tsub (by omega)]
    exact (klt (k := 3) (by omega) (by omega)).mpr (by omega)
  refine ⟨?_, ?_, e⟩
  · rw [e]
    unfold zgone
    rw [decide_eq_true h5]
    simp
  · unfold ndQ
    rw [if_pos ha, decide_eq_false (Int32.not_le.mpr h5)]
    rfl
theorem nb_self {t : Int32} {x : zND} (h : zasked x.2.2.1 = false) : zgone t x = false := by
  unfold zgone
  rw [h]
  rfl
theorem nb_stale {c : Nat} {x : zND} (h2 : x.2.2.1 = 2) (h10 : nI (c + 1) - x.2.2.2.1 = 10) : zgone (nI (c + 1)) (ndA (nI (c + 1)) x) = false ∧ ndQ (nI (c + 1)) x = false ∧ ndA (nI (c + 1)) x = ndS x 3 (nI (c + 1)) := by
  have ha : ¬ zasked x.2.2.1 = true := by rw [h2]; decide
  have e : ndA (nI (c + 1)) x = ndS x 3 (nI (c + 1)) := by
    unfold ndA
    rw [if_neg ha, if_pos ⟨h2, by rw [h10]; decide⟩]
  refine ⟨?_, ?_, e⟩
  · rw [e]
    exact nb_self rfl
  · unfold ndQ
    rw [if_neg ha, h2]
    rfl
theorem nb_probe {c : Nat} {x : zND} (h4 : x.2.2.1 = 4) (h5 : nI (c + 1) - x.2.2.2.1 = 5) : zgone (nI (c + 1)) (ndA (nI (c + 1)) x) = false ∧ ndQ (nI (c + 1)) x = true ∧ ndA (nI (c + 1)) x = ndS x 5 (nI (c + 1)) := by
  have ha : ¬ zasked x.2.2.1 = true := by rw [h4]; decide
  have e : ndA (nI (c + 1)) x = ndS x 5 (nI (c + 1)) := by
    unfold ndA
    rw [if_neg ha, if_neg (fun h => by rw [h4] at h; exact absurd h.1 (by decide)), if_pos ⟨h4, by rw [h5]; decide⟩]
  refine ⟨?_, ?_, e⟩
  · rw [e]
    unfold zgone
    show (zasked 5 && !decide (nI (c + 1) - nI (c + 1) < 3)) = false
    rw [Int32.sub_self]
    rfl
  · unfold ndQ
    rw [if_neg ha, h4, h5]
    rfl
theorem nb_stay {c : Nat} {x : zND} (hc : c < 1000000 - 1) (hx : nV c false x) (ha : ¬ zasked x.2.2.1 = true) (h2 : ¬ (x.2.2.1 = 2 ∧ nI (c + 1) - x.2.2.2.1 = 10)) (h4 : ¬ (x.2.2.1 = 4 ∧ nI (c + 1) - x.2.2.2.1 = 5)) : zgone (nI (c + 1)) (ndA (nI (c + 1)) x) = false ∧ ndQ (nI (c + 1)) x = false ∧ ndA (nI (c + 1)) x = x := by
  obtain ⟨b, e1, e2, e3, e4, e5⟩ := hx.2.2.2 rfl
  have g2 : x.2.2.1 = 2 → nI (c + 1) - x.2.2.2.1 < 10 := by
    intro h
    have h6 := e4 h
    have h7 : ¬ nI (c + 1) - x.2.2.2.1 = 10 := fun hh => h2 ⟨h, hh⟩
    rw [e1, tsub (by omega)] at h7 ⊢
    have h8 : c + 1 - b ≠ 10 := fun hh => h7 (by rw [hh]; rfl)
    exact (klt (k := 10) (by omega) (by omega)).mpr (by omega)
  have g4 : x.2.2.1 = 4 → nI (c + 1) - x.2.2.2.1 < 5 := by
    intro h
    have h6 := e5 h
    have h7 : ¬ nI (c + 1) - x.2.2.2.1 = 5 := fun hh => h4 ⟨h, hh⟩
    rw [e1, tsub (by omega)] at h7 ⊢
    have h8 : c + 1 - b ≠ 5 := fun hh => h7 (by rw [hh]; rfl)
    exact (klt (k := 5) (by omega) (by omega)).mpr (by omega)
  have e : ndA (nI (c + 1)) x = x := by
    unfold ndA
    rw [if_neg ha, if_neg (fun h => h.2 (g2 h.1)), if_neg (fun h => h.2 (g4 h.1))]
  refine ⟨?_, ?_, e⟩
  · rw [e]
    exact nb_self (by simpa using ha)
  · unfold ndQ
    rw [if_neg ha]
    by_cases h : x.2.2.1 = 4
    · rw [decide_eq_true (g4 h)]
      simp
    · rw [decide_eq_false h]
      rfl
/-- how many packets were lost, one more -/
def lostS (s : hSc) (w : Int32) : hSc := (s.1, s.2.1, s.2.2.1, w, s.2.2.2.2)
theorem nb_lost {c : Nat} {x : zND} (hx : nV c false x) : (x.2.2.1 = 1 ∧ ¬ x.2.2.2.2.2 ≤ 0) ↔ ¬ x.2.2.2.2.2 = 0 := by
  constructor
  · intro h e
    exact h.2 (by rw [e]; decide)
  · intro h
    refine ⟨hx.2.1 h, fun hle => h ?_⟩
    exact Int32.le_antisymm hle (Int32.not_lt.mp hx.1)
end ZAges
section ZLearn
theorem zw_iff {v a b : Int32} : zwithin v a b = true ↔ ¬ v < a ∧ ¬ b < v := by
  unfold zwithin
  rw [Bool.and_eq_true, Bool.not_eq_true', Bool.not_eq_true', decide_eq_false_iff_not, decide_eq_false_iff_not]
theorem swX_1 (t : Int32) (x : zND) : (swX t x).1 = x.1 := by
  unfold swX
  split
  · rfl
  · unfold ndD
    split <;> rfl
/-- the place of a neighbour that is looked for -/
def nbIx (l : List zND) (a : Int32) (i : Nat) (y : zND) : Prop := l[i]? = some y ∧ y.1 = a ∧ ∀ z ∈ l.take i, decide (z.1 = a) = false
theorem nbIx.set1 {l : List zND} {a : Int32} {i : Nat} {y : zND} (h : nbIx l a i y) (f : zND → zND) : zset1 (fun e => decide (e.1 = a)) f l = l.set i (f y) := zset1_at h.2.2 h.1 (decide_eq_true h.2.1)
theorem nbIx.find {l : List zND} {a : Int32} {i : Nat} {y : zND} (h : nbIx l a i y) : l.find? (fun e => decide (e.1 = a)) = some y := by
  obtain ⟨h1, h2, h3⟩ := h
  obtain ⟨hi, rfl⟩ := List.getElem?_eq_some_iff.mp h1
  rw [List.find?_eq_some_iff_append]
  refine ⟨decide_eq_true h2, l.take i, l.drop (i + 1), ?_, fun y hy => by rw [h3 y hy]; rfl⟩
  rw [List.getElem_cons_drop, List.take_append_drop]
theorem nbIx.upd {l : List zND} {a : Int32} {i : Nat} {y z : zND} (h : nbIx l a i y) (hz : z.1 = a) : nbIx (l.set i z) a i z := by
  obtain ⟨h1, h2, h3⟩ := h
  obtain ⟨hi, _⟩ := List.getElem?_eq_some_iff.mp h1
  refine ⟨by rw [List.getElem?_set, if_pos rfl, if_pos hi], hz, fun w hw => h3 w ?_⟩
  rw [List.take_set_of_le (Nat.le_refl _)] at hw
  exact hw
theorem nbIx.new {l : List zND} {n : Nat} {a : Int32} {y : zND} (h : l.find? (fun e => decide (e.1 = a)) = none) (hy : y.1 = a) : nbIx (zcap n l ++ [y]) a (zcap n l).length y := by
  refine ⟨zlast _ _, hy, fun w hw => ?_⟩
  rw [List.take_left] at hw
  exact zcap_no h w hw
theorem lnT_none {q : hT} {a n : Int32} (h : q.2.2.2.1.find? (fun e => decide (e.1 = a)) = none) : lnT q a n = tN q (zcap 6 q.2.2.2.1 ++ [(a, n, 3, q.1.2.1, false, 0)]) := by
  unfold lnT
  rw [h]
theorem lnT_same {q : hT} {a n : Int32} {x : zND} (h : q.2.2.2.1.find? (fun e => decide (e.1 = a)) = some x) (h1 : ¬ x.2.2.1 = 1) (h2 : x.2.1 = n) : lnT q a n = q := by
  unfold lnT
  rw [h]
  show (if x.2.2.1 = 1 ∨ ¬ x.2.1 = n then _ else q) = q
  rw [if_neg (fun hh => hh.elim h1 (fun h3 => h3 h2))]
theorem lnT_new {q : hT} {a n : Int32} {x : zND} {i : Nat} (h : nbIx q.2.2.2.1 a i x) (h2 : ¬ x.2.1 = n) : lnT q a n = tU (tN q (q.2.2.2.1.set i (lnX q.1.2.1 n x))) (swU q.2.1 x) := by
  unfold lnT
  rw [h.find]
  show (if x.2.2.1 = 1 ∨ ¬ x.2.1 = n then _ else q) = _
  rw [if_pos (.inr h2), h.set1]
/-- what is left of a valid life -/
theorem left_lt {c : Nat} {e v : Int32} (hc : c < 1000000) (he : e = 2147483647 ∨ e < 2000000000) (hv : zwithin v 0 1000 = true) : (cv e - nI c < v ↔ e - nI c < v) ∧ (20 < cv e - nI c ↔ 20 < e - nI c) := by
  unfold cv
  by_cases h : e = 2147483647
  · rw [if_pos h, h]
    obtain ⟨k, rfl, hk1, hk2⟩ := zwithin_nI (a := 0) (b := 1000) (by omega) (by omega) hv
    have e1 : (2000000000 : Int32) - nI c = nI (2000000000 - c) := nI_sub (a := 2000000000) (by omega)
    have e2 : (2147483647 : Int32) - nI c = nI (2147483647 - c) := nI_sub (a := 2147483647) (by omega)
    rw [e1, e2]
    constructor
    · rw [klt (by omega) (by omega), klt (by omega) (by omega)]
      omega
    · have a1 : (20 : Int32) < nI (2000000000 - c) := (klt (a := 20) (by omega) (by omega)).mpr (by omega)
      have a2 : (20 : Int32) < nI (2147483647 - c) := (klt (a := 20) (by omega) (by omega)).mpr (by omega)
      exact ⟨fun _ => a2, fun _ => a1⟩
  · rw [if_neg h]
    exact ⟨Iff.rfl, Iff.rfl⟩
theorem end_ne {c : Nat} {v : Int32} (hc : c < 1000000) (hv : zwithin v 0 1000 = true) : nI c + v ≠ 2147483647 := by
  obtain ⟨k, rfl, hk1, hk2⟩ := zwithin_nI (a := 0) (b := 1000) (by omega) (by omega) hv
  rw [nI_add]
  intro h
  have := (nI_eq (a := c + k) (b := 2147483647) (by omega) (by omega)).mp h
  omega
theorem fl1 {f : Int32} (h : zwithin f 0 7 = true) : (f &&& 1 = 1 ↔ ¬ f &&& 1 = 0) ∧ (f &&& 2 = 2 ↔ ¬ f &&& 2 = 0) := by
  obtain ⟨k, rfl, hk1, hk2⟩ := zwithin_nI (a := 0) (b := 7) (by omega) (by omega) h
  have : ∀ k, k < 8 → (nI k &&& 1 = 1 ↔ ¬ nI k &&& 1 = 0) ∧ (nI k &&& 2 = 2 ↔ ¬ nI k &&& 2 = 0) := by decide +kernel
  exact this k (by omega)
theorem fl3 {f : Int32} (h : zwithin f 0 3 = true) : zwithin f 0 7 = true := by
  rw [zw_iff] at h ⊢
  exact ⟨h.1, fun hh => h.2 (Int32.lt_trans (by decide) hh)⟩
end ZLearn
