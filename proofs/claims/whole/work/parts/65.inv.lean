/-! What every state that calls lead to keeps. -/
section ZInv
theorem kle {a k : Nat} (ha : a < 2147483648) (hk : k < 2147483648) : nI a ≤ nI k ↔ a ≤ k := nI_leI ha hk
theorem klt {a k : Nat} (ha : a < 2147483648) (hk : k < 2147483648) : nI a < nI k ↔ a < k := nI_ltI ha hk
def oI (c : Nat) (dn : Bool) (x : zOD) : Prop := (x.2.2.2.1 = 2147483647 ∨ x.2.2.2.1 < 2000000000) ∧ (dn = false → x.2.2.1 = 1 → ∃ b : Nat, x.2.1 = nI b ∧ b ≤ c ∧ c ≤ b + 1)
def nV (c : Nat) (dn : Bool) (x : zND) : Prop := ¬ x.2.2.2.2.2 < 0 ∧ (x.2.2.2.2.2 ≠ 0 → x.2.2.1 = 1) ∧ (x.2.2.1 = 1 → x.2.1 = 0) ∧ (dn = false → ∃ b : Nat, x.2.2.2.1 = nI b ∧ b ≤ c ∧ (x.2.2.1 = 1 ∨ x.2.2.1 = 5 → c ≤ b + 2) ∧ (x.2.2.1 = 2 → c ≤ b + 9) ∧ (x.2.2.1 = 4 → c ≤ b + 4))
def nd (l : List zTD) : Prop := (l.map (fun e => e.1)).Nodup
def hI (q : hT) (T U : Nat) : Prop := ∃ c : Nat, q.1.2.1 = nI c ∧ c ≤ T ∧ T < 1000000 ∧ q.2.1.1 ≤ U ∧ U < 2000000000 ∧ q.2.2.1.length ≤ 5 ∧ q.2.2.2.1.length ≤ 6 ∧ (∀ x ∈ q.2.2.1, oI c q.1.2.2.2.2.2.2 x) ∧ (∀ x ∈ q.2.2.2.1, nV c q.1.2.2.2.2.2.2 x) ∧ (∀ x ∈ q.2.2.2.2.1, x.1 ≠ 0) ∧ nd q.2.2.2.2.1 ∧ nd q.2.2.2.2.2.1 ∧ q.2.2.2.2.2.2.2.1 ≤ 6 ∧ (∀ i, i < q.2.2.2.2.2.2.2.1 → zwithin (q.2.2.2.2.2.2.2.2.2 i) 0 3 = true)
theorem hI.mono {q : hT} {T U T' U' : Nat} (h : hI q T U) (hT : T ≤ T') (hU : U ≤ U') (h1 : T' < 1000000) (h2 : U' < 2000000000) : hI q T' U' := by
  obtain ⟨c, a1, a2, a3, a4, a5, r⟩ := h
  exact ⟨c, a1, by omega, h1, by omega, h2, r⟩
theorem mem_zset1 {α : Type} {p : α → Bool} {f : α → α} {y : α} : ∀ {l : List α}, y ∈ zset1 p f l → y ∈ l ∨ ∃ x ∈ l, p x = true ∧ y = f x
  | [], h => by simp [zset1] at h
  | e :: r, h => by
    rw [zset1] at h
    by_cases hp : p e = true
    · rw [if_pos hp] at h
      rcases List.mem_cons.mp h with h1 | h1
      · exact .inr ⟨e, List.mem_cons_self, hp, h1⟩
      · exact .inl (List.mem_cons_of_mem _ h1)
    · rw [if_neg hp] at h
      rcases List.mem_cons.mp h with h1 | h1
      · exact .inl (by rw [h1]; exact List.mem_cons_self)
      · rcases mem_zset1 h1 with h2 | ⟨x, hx, h2⟩
        · exact .inl (List.mem_cons_of_mem _ h2)
        · exact .inr ⟨x, List.mem_cons_of_mem _ hx, h2⟩
theorem all_zset1 {α : Type} {p : α → Bool} {f : α → α} {P : α → Prop} {l : List α} (h : ∀ x ∈ l, P x) (hf : ∀ x ∈ l, p x = true → P (f x)) : ∀ y ∈ zset1 p f l, P y := by
  intro y hy
  rcases mem_zset1 hy with h1 | ⟨x, hx, hp, rfl⟩
  · exact h y h1
  · exact hf x hx hp
theorem len_zset1 {α : Type} {p : α → Bool} {f : α → α} : ∀ {l : List α}, (zset1 p f l).length = l.length
  | [] => rfl
  | e :: r => by
    rw [zset1]
    by_cases hp : p e = true
    · rw [if_pos hp]; rfl
    · rw [if_neg hp, List.length_cons, List.length_cons, len_zset1]
theorem zcap_sub {α : Type} {n : Nat} {l : List α} : (zcap n l).Sublist l := by
  unfold zcap
  by_cases h : n ≤ l.length
  · rw [if_pos h]; exact List.eraseIdx_sublist l 0
  · rw [if_neg h]; exact List.Sublist.refl l
theorem all_push {α : Type} {P : α → Prop} {l : List α} {n : Nat} {x : α} (h : ∀ y ∈ l, P y) (hx : P x) : ∀ y ∈ zcap n l ++ [x], P y := by
  intro y hy
  rcases List.mem_append.mp hy with h1 | h1
  · exact h y (zcap_sub.subset h1)
  · rw [List.mem_singleton.mp h1]; exact hx
theorem all_tkeep {P : zTD → Prop} {l : List zTD} {n : Nat} {x : zTD} (h : ∀ y ∈ l, P y) (hx : P x) : ∀ y ∈ tkeep n x l, P y := by
  unfold tkeep
  split
  · exact all_zset1 h (fun _ _ _ => hx)
  · exact all_push h hx
theorem keys_zset1 {l : List zTD} {x : zTD} : (zset1 (fun e => decide (e.1 = x.1)) (fun _ => x) l).map (fun e => e.1) = l.map (fun e => e.1) := by
  induction l with
  | nil => rfl
  | cons e r ih =>
    rw [zset1]
    by_cases hp : e.1 = x.1
    · rw [if_pos (decide_eq_true hp), List.map_cons, List.map_cons, hp]
    · rw [if_neg (by simpa using hp), List.map_cons, List.map_cons, ih]
theorem nd.sub {l l' : List zTD} (h : nd l) (hs : l'.Sublist l) : nd l' := List.Nodup.sublist (hs.map _) h
theorem nd_tkeep {l : List zTD} {n : Nat} {x : zTD} (h : nd l) : nd (tkeep n x l) := by
  unfold tkeep
  split
  · unfold nd
    rw [keys_zset1]
    exact h
  · rename_i hf
    unfold nd
    rw [List.map_append, List.nodup_append]
    refine ⟨h.sub zcap_sub, by simp, ?_⟩
    intro a ha b hb
    rw [List.map_singleton, List.mem_singleton] at hb
    obtain ⟨y, hy, rfl⟩ := List.mem_map.mp ha
    have := zcap_no hf y hy
    rw [hb]
    exact of_decide_eq_false this
theorem uOwT_len (t : Int32) : ∀ (l : List zOD) (u : hOu), (uOwT t l u).1 ≤ u.1 + l.length
  | [], u => by simp [uOwT]
  | x :: r, u => by
    have := uOwT_len t r (if oaP t x then ouAdd u 1 65535 x.1 else u)
    unfold uOwT at this ⊢
    rw [List.foldl_cons, List.length_cons]
    split at this
    · rename_i hc
      rw [if_pos hc]
      simp only [ouAdd] at this ⊢
      omega
    · rename_i hc
      rw [if_neg hc]
      omega
theorem uNbT_len (t : Int32) : ∀ (l : List zND) (u : hOu), (uNbT t l u).1 ≤ u.1 + l.length
  | [], u => by simp [uNbT]
  | x :: r, u => by
    have := uNbT_len t r (if ndQ t x then ouAdd u 2 (askTo (ndA t x)) x.1 else u)
    unfold uNbT at this ⊢
    rw [List.foldl_cons, List.length_cons]
    split at this
    · rename_i hc
      rw [if_pos hc]
      simp only [ouAdd] at this ⊢
      omega
    · rename_i hc
      rw [if_neg hc]
      omega
/-- differences of times -/
theorem tsub {c b : Nat} (h : b ≤ c) : nI c - nI b = nI (c - b) := nI_sub h
theorem oI_age {c : Nat} {x : zOD} (hc : c < 1000000) (h : oI c false x) : oI (c + 1) false (oaA (nI (c + 1)) x) := by
  obtain ⟨h1, h2⟩ := h
  unfold oaA
  split
  · refine ⟨h1, fun _ hs => ?_⟩
    exact absurd hs (by simp [oaS])
  · split
    · split
      · refine ⟨h1, fun _ hs => ?_⟩
        exact absurd hs (by simp [oaS])
      · refine ⟨h1, fun _ hs => ?_⟩
        exact absurd hs (by simp [oaS])
    · rename_i hn
      refine ⟨h1, fun _ hs => ?_⟩
      obtain ⟨b, e1, e2, e3⟩ := h2 rfl hs
      refine ⟨b, e1, by omega, ?_⟩
      have : ¬ 2 ≤ nI (c + 1) - x.2.1 := fun hh => hn ⟨hs, hh⟩
      rw [e1, tsub (by omega)] at this
      have h3 : ¬ (2 ≤ c + 1 - b) := fun hh => this ((kle (a := 2) (by omega) (by omega)).mpr hh)
      omega
theorem oI_down {c c' : Nat} {x : zOD} {b : Bool} (h : oI c b x) : oI c' true x := ⟨h.1, fun h => by cases h⟩
theorem nV_down {c c' : Nat} {x : zND} {b : Bool} (h : nV c b x) : nV c' true x := ⟨h.1, h.2.1, h.2.2.1, fun h => by cases h⟩
theorem nV_age {c : Nat} {x : zND} (hc : c < 1000000) (h : nV c false x) (hg : zgone (nI (c + 1)) (ndA (nI (c + 1)) x) = false) : nV (c + 1) false (ndA (nI (c + 1)) x) := by
  obtain ⟨h1, h2, h3, h4⟩ := h
  obtain ⟨b, e1, e2, e3, e4, e5⟩ := h4 rfl
  have hsub : nI (c + 1) - x.2.2.2.1 = nI (c + 1 - b) := by rw [e1, tsub (by omega)]
  unfold ndA at hg ⊢
  split at hg
  · rename_i ha
    rw [if_pos ha]
    refine ⟨h1, h2, h3, fun _ => ⟨b, e1, by omega, fun hs => ?_, fun hs => ?_, fun hs => ?_⟩⟩
    · unfold zgone at hg
      rw [ha, Bool.true_and, Bool.not_eq_false', decide_eq_true_eq, hsub] at hg
      have := (klt (k := 3) (by omega) (by omega)).mp hg
      omega
    · rw [hs] at ha; exact absurd ha (by decide)
    · rw [hs] at ha; exact absurd ha (by decide)
  · rename_i ha
    rw [if_neg ha]
    split
    · refine ⟨h1, fun hw => ?_, fun hs => ?_, fun _ => ⟨c + 1, rfl, by omega, fun _ => by omega, fun _ => by omega, fun _ => by omega⟩⟩
      · have := h2 hw
        rw [this] at ha
        exact absurd rfl ha
      · exact absurd hs (by simp [ndS])
    · rename_i hn2
      split
      · refine ⟨h1, fun hw => ?_, fun hs => ?_, fun _ => ⟨c + 1, rfl, by omega, fun _ => by omega, fun _ => by omega, fun _ => by omega⟩⟩
        · have := h2 hw
          rw [this] at ha
          exact absurd rfl ha
        · exact absurd hs (by simp [ndS])
      · rename_i hn4
        refine ⟨h1, h2, h3, fun _ => ⟨b, e1, by omega, fun hs => ?_, fun hs => ?_, fun hs => ?_⟩⟩
        · rcases hs with hs | hs <;> (rw [hs] at ha; exact absurd rfl ha)
        · have : nI (c + 1) - x.2.2.2.1 < 10 := Decidable.not_not.mp (fun hh => hn2 ⟨hs, hh⟩)
          rw [hsub] at this
          have := (klt (k := 10) (by omega) (by omega)).mp this
          omega
        · have : nI (c + 1) - x.2.2.2.1 < 5 := Decidable.not_not.mp (fun hh => hn4 ⟨hs, hh⟩)
          rw [hsub] at this
          have := (klt (k := 5) (by omega) (by omega)).mp this
          omega
theorem hI_step {q : hT} {T U : Nat} (h : hI q T U) (hT : T + 1 < 1000000) (hU : U + 11 < 2000000000) : hI (stepT q) (T + 1) (U + 11) := by
  obtain ⟨c, a1, a2, a3, a4, a5, a6, a7, a8, a9, a10, a11, a12, a13, a14⟩ := h
  unfold stepT
  by_cases hd : q.1.2.2.2.2.2.2 = true
  · rw [if_pos hd]
    refine ⟨c + 1, ?_, by omega, hT, ?_, hU, a6, a7, ?_, ?_, a10, a11, a12, a13, a14⟩
    · show q.1.2.1 + 1 = _
      rw [a1, nI_1]
    · show q.2.1.1 ≤ _
      omega
    · intro x hx
      show oI (c + 1) q.1.2.2.2.2.2.2 x
      rw [hd]
      exact oI_down (a8 x hx)
    · intro x hx
      show nV (c + 1) q.1.2.2.2.2.2.2 x
      rw [hd]
      exact nV_down (a9 x hx)
  · rw [if_neg hd]
    have hdf : q.1.2.2.2.2.2.2 = false := by simpa using hd
    have e1 : (tS q (tickS q.1)).1.2.1 = nI (c + 1) := by
      show q.1.2.1 + 1 = _
      rw [a1, nI_1]
    rw [hdf] at a8 a9
    unfold dueT
    rw [e1]
    refine ⟨c + 1, e1, by omega, hT, ?_, hU, ?_, ?_, ?_, ?_, ?_, ?_, ?_, a13, a14⟩
    · show (uNbT _ q.2.2.2.1 (uOwT _ (q.2.2.1.filter _) q.2.1)).1 ≤ _
      have x1 := uNbT_len (nI (c + 1)) q.2.2.2.1 (uOwT (nI (c + 1)) (q.2.2.1.filter (fun x => decide (nI (c + 1) < x.2.2.2.1))) q.2.1)
      have x2 := uOwT_len (nI (c + 1)) (q.2.2.1.filter (fun x => decide (nI (c + 1) < x.2.2.2.1))) q.2.1
      have x3 := List.length_filter_le (fun x : zOD => decide (nI (c + 1) < x.2.2.2.1)) q.2.2.1
      omega
    · show ((q.2.2.1.filter _).map _).length ≤ 5
      rw [List.length_map]
      exact Nat.le_trans (List.length_filter_le _ _) a6
    · show ((q.2.2.2.1.map _).filter _).length ≤ 6
      refine Nat.le_trans (List.length_filter_le _ _) ?_
      rw [List.length_map]
      exact a7
    · intro x hx
      show oI (c + 1) q.1.2.2.2.2.2.2 x
      rw [hdf]
      obtain ⟨y, hy, rfl⟩ := List.mem_map.mp hx
      exact oI_age (by omega) (a8 y (List.mem_filter.mp hy).1)
    · intro x hx
      show nV (c + 1) q.1.2.2.2.2.2.2 x
      rw [hdf]
      obtain ⟨hx1, hx2⟩ := List.mem_filter.mp hx
      obtain ⟨y, hy, rfl⟩ := List.mem_map.mp hx1
      exact nV_age (by omega) (a9 y hy) (by simpa using hx2)
    · intro x hx
      exact a10 x (List.mem_filter.mp hx).1
    · exact a11.sub List.filter_sublist
    · exact a12.sub List.filter_sublist
theorem hI_tick : ∀ (n : Nat) {q : hT} {T U : Nat}, hI q T U → T + n < 1000000 → U + 11 * n < 2000000000 → hI (tickT n q) (T + n) (U + 11 * n)
  | 0, q, T, U, h, _, _ => h
  | n + 1, q, T, U, h, hT, hU => by
    have := hI_tick n (hI_step h (by omega) (by omega)) (by omega) (by omega)
    rw [show T + 1 + n = T + (n + 1) by omega, show U + 11 + 11 * n = U + 11 * (n + 1) by omega] at this
    exact this
end ZInv
