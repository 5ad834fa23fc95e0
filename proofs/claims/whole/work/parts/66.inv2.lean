/-! What every state that calls lead to keeps: the calls. -/
section ZInv2
theorem zset1_find {α : Type} {p : α → Bool} {f : α → α} {l : List α} {x : α} (h : l.find? p = some x) : ∃ j, l[j]? = some x ∧ zset1 p f l = l.set j (f x) := by
  obtain ⟨j, h1, h2, h3⟩ := zfind_idx h
  exact ⟨j, h1, zset1_at h3 h1 h2⟩
theorem hI.tN {q : hT} {T U : Nat} {l : List zND} (h : hI q T U) (hl : l.length ≤ 6) (hx : ∀ c : Nat, q.1.2.1 = nI c → (∀ x ∈ q.2.2.2.1, nV c q.1.2.2.2.2.2.2 x) → ∀ x ∈ l, nV c q.1.2.2.2.2.2.2 x) : hI (tN q l) T U := by
  obtain ⟨c, a1, a2, a3, a4, a5, a6, a7, a8, a9, r⟩ := h
  exact ⟨c, a1, a2, a3, a4, a5, a6, hl, a8, hx c a1 a9, r⟩
theorem hI.tO {q : hT} {T U : Nat} {l : List zOD} (h : hI q T U) (hl : l.length ≤ 5) (hx : ∀ c : Nat, q.1.2.1 = nI c → c < 1000000 → (∀ x ∈ q.2.2.1, oI c q.1.2.2.2.2.2.2 x) → ∀ x ∈ l, oI c q.1.2.2.2.2.2.2 x) : hI (tO q l) T U := by
  obtain ⟨c, a1, a2, a3, a4, a5, a6, a7, a8, a9, r⟩ := h
  exact ⟨c, a1, a2, a3, a4, a5, hl, a7, hx c a1 (by omega) a8, a9, r⟩
theorem hI.tR {q : hT} {T U : Nat} {l : List zTD} (h : hI q T U) (h0 : ∀ x ∈ l, x.1 ≠ 0) (hn : nd l) : hI (tR q l) T U := by
  obtain ⟨c, a1, a2, a3, a4, a5, a6, a7, a8, a9, a10, a11, r⟩ := h
  exact ⟨c, a1, a2, a3, a4, a5, a6, a7, a8, a9, h0, hn, r⟩
theorem hI.tP {q : hT} {T U : Nat} {l : List zTD} (h : hI q T U) (hn : nd l) : hI (tP q l) T U := by
  obtain ⟨c, a1, a2, a3, a4, a5, a6, a7, a8, a9, a10, a11, a12, r⟩ := h
  exact ⟨c, a1, a2, a3, a4, a5, a6, a7, a8, a9, a10, a11, hn, r⟩
theorem hI.tA {q : hT} {T U : Nat} {l : List zTD} (h : hI q T U) : hI (tA q l) T U := h
theorem hI.tU {q : hT} {T U U' : Nat} {u : hOu} (h : hI q T U) (hu : u.1 ≤ U') (h2 : U' < 2000000000) : hI (tU q u) T U' := by
  obtain ⟨c, a1, a2, a3, a4, a5, r⟩ := h
  exact ⟨c, a1, a2, a3, hu, h2, r⟩
theorem hI.tS {q : hT} {T U : Nat} {s : hSc} (h : hI q T U) (ht : s.2.1 = q.1.2.1) (hd : s.2.2.2.2.2.2 = q.1.2.2.2.2.2.2 ∨ s.2.2.2.2.2.2 = true) : hI (tS q s) T U := by
  obtain ⟨c, a1, a2, a3, a4, a5, a6, a7, a8, a9, r⟩ := h
  refine ⟨c, by rw [← a1]; exact ht, a2, a3, a4, a5, a6, a7, ?_, ?_, r⟩
  · intro x hx
    show oI c s.2.2.2.2.2.2 x
    rcases hd with hd | hd
    · rw [hd]; exact a8 x hx
    · rw [hd]; exact oI_down (a8 x hx)
  · intro x hx
    show nV c s.2.2.2.2.2.2 x
    rcases hd with hd | hd
    · rw [hd]; exact a9 x hx
    · rw [hd]; exact nV_down (a9 x hx)
theorem nV_now {c : Nat} {dn : Bool} {y : zND} (hs : y.2.2.2.1 = nI c) (hw : y.2.2.2.2.2 = 0) (h1 : ¬ y.2.2.1 = 1) : nV c dn y :=
  ⟨by rw [hw]; decide, fun h => absurd hw h, fun h => absurd h h1, fun _ => ⟨c, hs, Nat.le_refl c, fun _ => by omega, fun _ => by omega, fun _ => by omega⟩⟩
theorem swX_w (t : Int32) (x : zND) : (swX t x).2.2.2.2.2 = 0 := by
  unfold swX
  split
  · rename_i h; exact h
  · rfl
theorem ndD_since {t : Int32} {x : zND} (h : x.2.2.2.1 = t) : (ndD t x).2.2.2.1 = t := by
  unfold ndD
  split
  · rfl
  · exact h
theorem ndD_ne {t : Int32} {x : zND} (h : ¬ x.2.2.1 = 1) : ¬ (ndD t x).2.2.1 = 1 := by
  unfold ndD
  split
  · simp [ndS]
  · exact h
theorem swX_since {t : Int32} {x : zND} (h : x.2.2.2.1 = t) : (swX t x).2.2.2.1 = t := by
  unfold swX
  split
  · exact h
  · exact ndD_since h
theorem swX_ne {t : Int32} {x : zND} (h : ¬ x.2.2.1 = 1) : ¬ (swX t x).2.2.1 = 1 := by
  unfold swX
  split
  · exact h
  · exact ndD_ne h
theorem nV_swX {c : Nat} {dn : Bool} {y : zND} (hs : y.2.2.2.1 = nI c) (h1 : ¬ y.2.2.1 = 1) : nV c dn (swX (nI c) y) := nV_now (swX_since hs) (swX_w _ _) (swX_ne h1)
theorem swU_len (u : hOu) (x : zND) : (swU u x).1 ≤ u.1 + 1 := by
  unfold swU
  split
  · omega
  · exact Nat.le_refl _
theorem nV_w0 {c : Nat} {dn : Bool} {x : zND} (h : nV c dn x) (h1 : ¬ x.2.2.1 = 1) : x.2.2.2.2.2 = 0 := Decidable.not_not.mp (fun hh => h1 (h.2.1 hh))
theorem nV_D {c : Nat} {dn : Bool} {x : zND} (h : nV c dn x) : nV c dn (ndD (nI c) x) := by
  unfold ndD
  split
  · rename_i h3
    exact nV_now rfl (show x.2.2.2.2.2 = 0 from nV_w0 h (by rw [h3]; decide)) (by simp [ndS])
  · exact h
theorem nV_R {c : Nat} {dn : Bool} {x : zND} {b : Bool} (h : nV c dn x) : nV c dn (ndR x b) := h
theorem hU_le {q : hT} {T U : Nat} (h : hI q T U) : q.2.1.1 ≤ U := by
  obtain ⟨c, a1, a2, a3, a4, r⟩ := h
  exact a4
theorem hI_ln {q : hT} {T U : Nat} {a n : Int32} (h : hI q T U) (hU : U + 1 < 2000000000) : hI (lnT q a n) T (U + 1) := by
  have h6 : q.2.2.2.1.length ≤ 6 := by
    obtain ⟨c, a1, a2, a3, a4, a5, a6, a7, r⟩ := h
    exact a7
  have hu := hU_le h
  unfold lnT
  split
  · refine hI.mono (hI.tN h ?_ ?_) (Nat.le_refl _) (Nat.le_succ _) (by obtain ⟨c, a1, a2, a3, r⟩ := h; exact a3) hU
    · rw [List.length_append]
      have := zcap_len (n := 6) (by omega) h6
      simp only [List.length_cons, List.length_nil]
      omega
    · intro c hc hall
      exact all_push hall (nV_now hc rfl (by show ¬ (3 : Int32) = 1; decide))
  · split
    · refine hI.tU (hI.tN h (by rw [len_zset1]; exact h6) ?_) ?_ hU
      · intro c hc hall
        rw [hc]
        exact all_zset1 hall (fun x _ _ => nV_swX rfl (by show ¬ (3 : Int32) = 1; decide))
      · have := swU_len q.2.1 (by assumption)
        omega
    · exact hI.mono h (Nat.le_refl _) (Nat.le_succ _) (by obtain ⟨c, a1, a2, a3, r⟩ := h; exact a3) hU
theorem hT_lt {q : hT} {T U : Nat} (h : hI q T U) : T < 1000000 := by
  obtain ⟨c, a1, a2, a3, r⟩ := h
  exact a3
theorem hI_router {q : hT} {T U : Nat} {a n l z : Int32} (h : hI q T U) (hU : U + 1 < 2000000000) (ha : zwithin a 1 254 = true) : hI (routerT q a n l z) T (U + 1) := by
  have h1 := hI_ln (a := 256 * 1 + a) (n := n) h hU
  unfold routerT
  simp only
  have hk : 256 * 1 + a ≠ 0 := by
    obtain ⟨k, rfl, hk1, hk2⟩ := zwithin_nI (a := 1) (b := 254) (by omega) (by omega) ha
    show nI 256 + nI k ≠ 0
    rw [nI_add]
    exact nI_ne0 (by omega) (by omega)
  have h2 : hI (tN (lnT q (256 * 1 + a) n) (zset1 (fun e => decide (e.1 = 256 * 1 + a)) (fun x => ndR x true) (lnT q (256 * 1 + a) n).2.2.2.1)) T (U + 1) := by
    refine hI.tN h1 ?_ ?_
    · rw [len_zset1]
      obtain ⟨c, a1, a2, a3, a4, a5, a6, a7, r⟩ := h1
      exact a7
    · intro c hc hall
      exact all_zset1 hall (fun x hx _ => nV_R (hall x hx))
  have h3 : hI (if l = 0 then tR (tN (lnT q (256 * 1 + a) n) (zset1 (fun e => decide (e.1 = 256 * 1 + a)) (fun x => ndR x true) (lnT q (256 * 1 + a) n).2.2.2.1)) ((tN (lnT q (256 * 1 + a) n) (zset1 (fun e => decide (e.1 = 256 * 1 + a)) (fun x => ndR x true) (lnT q (256 * 1 + a) n).2.2.2.1)).2.2.2.2.1.filter (fun e => !decide (e.1 = 256 * 1 + a))) else tR (tN (lnT q (256 * 1 + a) n) (zset1 (fun e => decide (e.1 = 256 * 1 + a)) (fun x => ndR x true) (lnT q (256 * 1 + a) n).2.2.2.1)) (tkeep 3 (256 * 1 + a, zend q.1.2.1 l, 0) (tN (lnT q (256 * 1 + a) n) (zset1 (fun e => decide (e.1 = 256 * 1 + a)) (fun x => ndR x true) (lnT q (256 * 1 + a) n).2.2.2.1)).2.2.2.2.1)) T (U + 1) := by
    have h2' := h2
    obtain ⟨c, a1, a2, a3, a4, a5, a6, a7, a8, a9, a10, a11, r⟩ := h2'
    split
    · exact hI.tR h2 (fun x hx => a10 x (List.mem_filter.mp hx).1) (a11.sub List.filter_sublist)
    · exact hI.tR h2 (all_tkeep a10 hk) (nd_tkeep a11)
  split
  · exact hI.tS h3 rfl (.inl rfl)
  · exact h3
theorem zend_ok {c : Nat} {v : Int32} (hc : c < 1000000) (hv : zwithin v 0 1000 = true) : zend (nI c) v = 2147483647 ∨ zend (nI c) v < 2000000000 := by
  obtain ⟨k, rfl, hk1, hk2⟩ := zwithin_nI (a := 0) (b := 1000) (by omega) (by omega) hv
  unfold zend
  split
  · exact .inl rfl
  · rw [nI_add]
    exact .inr ((klt (k := 2000000000) (by omega) (by omega)).mpr (by omega))
theorem oI_R {c : Nat} {dn : Bool} {v p : Int32} {x : zOD} (hc : c < 1000000) (hv : zwithin v 0 1000 = true) (h : oI c dn x) : oI c dn (oaR (nI c) v p x) := by
  unfold oaR
  refine ⟨?_, fun hd hs => ?_⟩
  · show (if 20 < v ∨ x.2.2.2.1 - nI c < v then zend (nI c) v else if 20 < x.2.2.2.1 - nI c then zend (nI c) 20 else x.2.2.2.1) = 2147483647 ∨ (if 20 < v ∨ x.2.2.2.1 - nI c < v then zend (nI c) v else if 20 < x.2.2.2.1 - nI c then zend (nI c) 20 else x.2.2.2.1) < 2000000000
    split
    · exact zend_ok hc hv
    · split
      · exact zend_ok hc (by decide)
      · exact h.1
  · have hs' : (if x.2.2.1 = 1 then x.2.2.1 else if p = 0 then 3 else 2) = 1 := hs
    by_cases h1 : x.2.2.1 = 1
    · exact h.2 hd h1
    · rw [if_neg h1] at hs'
      split at hs' <;> exact absurd hs' (by decide)
theorem hI_form {q : hT} {T U : Nat} {p ve pe : Int32} (h : hI q T U) (hU : U + 1 < 2000000000) (hv : ve = 2147483647 ∨ ve < 2000000000) (hl : q.2.2.1.length < 5) : hI (formT q p ve pe) T (U + 1) := by
  have hu := hU_le h
  unfold formT
  refine hI.tU (hI.tO h ?_ ?_) (by show q.2.1.1 + 1 ≤ U + 1; omega) hU
  · rw [List.length_append]
    simp only [List.length_cons, List.length_nil]
    omega
  · intro c hc hlt hall y hy
    rcases List.mem_append.mp hy with h1 | h1
    · exact hall y h1
    · rw [List.mem_singleton.mp h1]
      exact ⟨hv, fun _ _ => ⟨c, hc, Nat.le_refl c, Nat.le_succ c⟩⟩
theorem hI_prefix {q : hT} {T U : Nat} {p f v r : Int32} (h : hI q T U) (hU : U + 1 < 2000000000) (hv : zwithin v 0 1000 = true) : hI (prefixT q p f v r) T (U + 1) := by
  have hup : ∀ {q' : hT}, hI q' T U → hI q' T (U + 1) := fun h' => hI.mono h' (Nat.le_refl _) (Nat.le_succ _) (hT_lt h) hU
  unfold prefixT
  split
  · exact hup h
  · simp only
    have h1 : hI (if f &&& 1 = 0 then q else hearOnLinkT q p v) T U := by
      split
      · exact h
      · unfold hearOnLinkT
        have h' := h
        obtain ⟨c, a1, a2, a3, a4, a5, a6, a7, a8, a9, a10, a11, a12, r⟩ := h'
        split
        · exact hI.tP h (a12.sub List.filter_sublist)
        · exact hI.tP h (nd_tkeep a12)
    split
    · exact hup h1
    · generalize (if f &&& 1 = 0 then q else hearOnLinkT q p v) = q1 at h1
      unfold hearFormT
      split
      · split
        · rename_i hc
          refine hI_form h1 hU ?_ hc.2
          obtain ⟨c, a1, a2, a3, r⟩ := h1
          rw [a1]
          exact zend_ok (by omega) hv
        · exact hup h1
      · split
        · exact hup h1
        · refine hup (hI.tO h1 ?_ ?_)
          · rw [len_zset1]
            obtain ⟨c, a1, a2, a3, a4, a5, a6, r⟩ := h1
            exact a6
          · intro c hc hlt hall
            rw [hc]
            exact all_zset1 hall (fun x hx _ => oI_R hlt hv (hall x hx))
theorem hI_dup {q : hT} {T U : Nat} {a : Int32} {x : zOD} (h : hI q T U) : hI (dupT q a x) T U := by
  unfold dupT
  refine hI.tS (hI.tO h ?_ ?_) rfl ?_
  · rw [len_zset1]
    obtain ⟨c, a1, a2, a3, a4, a5, a6, r⟩ := h
    exact a6
  · intro c hc hlt hall
    exact all_zset1 hall (fun y hy _ => ⟨(hall y hy).1, fun _ hs => absurd hs (by simp [oaS])⟩)
  · show (q.1.2.2.2.2.2.2 || zlocal x.1) = q.1.2.2.2.2.2.2 ∨ (q.1.2.2.2.2.2.2 || zlocal x.1) = true
    cases zlocal x.1
    · exact .inl (Bool.or_false _)
    · exact .inr (Bool.or_true _)
theorem hI_asked {q : hT} {T U : Nat} {f t n : Int32} (h : hI q T U) (hU : U + 2 < 2000000000) : hI (askedT q f t n) T (U + 2) := by
  have hup : ∀ {q' : hT}, hI q' T U → hI q' T (U + 2) := fun h' => hI.mono h' (Nat.le_refl _) (by omega) (hT_lt h) hU
  unfold askedT
  split
  · exact hup h
  · split
    · simp only
      have h1 : hI (if f = 0 then q else lnT q f n) T (U + 1) := by
        split
        · exact hI.mono h (Nat.le_refl _) (by omega) (hT_lt h) (by omega)
        · exact hI_ln h (by omega)
      have := hU_le h1
      exact hI.tU h1 (by show (if f = 0 then q else lnT q f n).2.1.1 + 1 ≤ U + 2; omega) hU
    · split
      · exact hup (hI_dup h)
      · exact hup h
theorem nV_hn {c : Nat} {dn : Bool} {n fl : Int32} {x : zND} (h : nV c dn x) : nV c dn (hnX (nI c) n fl x) := by
  unfold hnX
  split
  · refine nV_swX rfl ?_
    show ¬ (if fl &&& 2 = 0 then (3 : Int32) else 2) = 1
    split <;> decide
  · rename_i h1
    split
    · split
      · exact ⟨h.1, h.2.1, fun hh => absurd hh h1, h.2.2.2⟩
      · exact nV_now rfl (show x.2.2.2.2.2 = 0 from nV_w0 h h1) (by simp [ndS])
    · exact nV_now rfl (show x.2.2.2.2.2 = 0 from nV_w0 h h1) (by simp [ndS])
theorem hnU_len (u : hOu) (x : zND) : (hnU u x).1 ≤ u.1 + 1 := by
  unfold hnU
  split
  · exact swU_len u x
  · omega
theorem hI_told {q : hT} {T U : Nat} {t n fl : Int32} (h : hI q T U) (hU : U + 1 < 2000000000) : hI (toldT q t n fl) T (U + 1) := by
  have hup : ∀ {q' : hT}, hI q' T U → hI q' T (U + 1) := fun h' => hI.mono h' (Nat.le_refl _) (by omega) (hT_lt h) hU
  have hN : hI (toldN q t n fl) T (U + 1) := by
    have h' := h
    obtain ⟨c, a1, a2, a3, a4, a5, a6, a7, a8, a9, a10, a11, r⟩ := h'
    unfold toldN
    split
    · exact hup h
    · split
      · refine hup (hI.tN h (by rw [len_zset1]; exact a7) ?_)
        intro c hc hall
        rw [hc]
        refine all_zset1 hall (fun x hx _ => ?_)
        split
        · rename_i h2
          exact nV_now rfl (show x.2.2.2.2.2 = 0 from nV_w0 (hall x hx) (by rw [h2]; decide)) (by simp [ndS])
        · exact hall x hx
      · refine hI.tR (hI.tU (hI.tN h (by rw [len_zset1]; exact a7) ?_) ?_ hU) ?_ ?_
        · intro c hc hall
          rw [hc]
          exact all_zset1 hall (fun x hx _ => nV_R (nV_hn (hall x hx)))
        · have := hnU_len q.2.1 (by assumption)
          omega
        · unfold rdrop
          split
          · exact fun x hx => a10 x (List.mem_filter.mp hx).1
          · exact a10
        · unfold rdrop
          split
          · exact a11.sub List.filter_sublist
          · exact a11
  unfold toldT
  split
  · exact hN
  · split
    · exact hup (hI_dup h)
    · exact hN
theorem hI_send {q : hT} {T U : Nat} {t n : Int32} (h : hI q T U) (hU : U + 1 < 2000000000) (hn : zwithin n 1 40 = true) : hI (sendQ q t n).2 T (U + 1) := by
  have hup : ∀ {q' : hT}, hI q' T U → hI q' T (U + 1) := fun h' => hI.mono h' (Nat.le_refl _) (by omega) (hT_lt h) hU
  have hn0 : ¬ n < 0 := by
    obtain ⟨k, rfl, hk1, hk2⟩ := zwithin_nI (a := 1) (b := 40) (by omega) (by omega) hn
    exact nI_pos (by omega)
  have h' := h
  obtain ⟨c, a1, a2, a3, a4, a5, a6, a7, a8, a9, a10, a11, r⟩ := h'
  have key : ∀ hp : Int32, hI (sendT q hp n).2 T (U + 1) := by
    intro hp
    unfold sendT
    split
    · refine hI.tU (hI.tN h ?_ ?_) (by show q.2.1.1 + 1 ≤ U + 1; omega) hU
      · rw [List.length_append]
        have := zcap_len (n := 6) (by omega) a7
        simp only [List.length_cons, List.length_nil]
        omega
      · intro c hc hall
        exact all_push hall ⟨hn0, fun _ => rfl, fun _ => rfl, fun _ => ⟨c, hc, Nat.le_refl c, fun _ => by omega, fun _ => by omega, fun _ => by omega⟩⟩
    · split
      · rename_i x hx h1
        refine hup (hI.tN h (by rw [len_zset1]; exact a7) ?_)
        intro c hc hall y hy
        obtain ⟨j, _, hj⟩ := zset1_find (f := fun x => ndW x n) hx
        rw [hj] at hy
        rcases List.mem_or_eq_of_mem_set hy with h2 | h2
        · exact hall y h2
        · rw [h2]
          have hv := hall x (List.mem_of_find?_eq_some hx)
          exact ⟨hn0, fun _ => h1, hv.2.2.1, hv.2.2.2⟩
      · refine hI.tU (hI.tN h (by rw [len_zset1]; exact a7) ?_) (by show q.2.1.1 + 1 ≤ U + 1; omega) hU
        intro c hc hall
        rw [hc]
        exact all_zset1 hall (fun x hx _ => nV_D (hall x hx))
  unfold sendQ
  split
  · exact hup h
  · split
    · exact hup h
    · simp only
      generalize (if onLinkT q t = true then t else hopT q.2.2.2.2.1 q.2.2.2.1) = hp
      split
      · exact hup h
      · exact key _
theorem hI_small {q : hT} {T U : Nat} {t n : Int32} (h : hI q T U) : hI (smallT q t n) T U := by
  unfold smallT
  split
  · exact h
  · exact hI.tA h
theorem hI_head {q : hT} {T U : Nat} {a b : Int32} (h : hI q T U) (h6 : q.2.2.2.2.2.2.2.1 < 6) (hb : zwithin b 0 3 = true) : hI (headT q a b) T U := by
  obtain ⟨c, a1, a2, a3, a4, a5, a6, a7, a8, a9, a10, a11, a12, a13, a14⟩ := h
  refine ⟨c, a1, a2, a3, a4, a5, a6, a7, a8, a9, a10, a11, a12, h6, ?_⟩
  intro i hi
  show zwithin (upd q.2.2.2.2.2.2.2.2.2 q.2.2.2.2.2.2.2.1 b i) 0 3 = true
  unfold upd
  split
  · exact hb
  · have hi' : i < q.2.2.2.2.2.2.2.1 + 1 := hi
    exact a14 i (by omega)
theorem hI_clear {q : hT} {T U : Nat} (h : hI q T U) : hI (clearT q) T U := by
  obtain ⟨c, a1, a2, a3, a4, a5, a6, a7, a8, a9, a10, a11, a12, a13, a14⟩ := h
  exact ⟨c, a1, a2, a3, a4, a5, a6, a7, a8, a9, a10, a11, a12, Nat.zero_le _, fun i hi => absurd hi (Nat.not_lt_zero i)⟩
theorem hI_fault {q : hT} {T U : Nat} {i f fr : Int32} {gr : Bool} (h : hI q T U) (hU : U + 1 < 2000000000) : hI (faultT q i f fr gr) T (U + 1) := by
  have hu := hU_le h
  unfold faultT
  split
  · exact hI.tU (hI.tS h rfl (.inl rfl)) (by show q.2.1.1 + 1 ≤ U + 1; omega) hU
  · exact hI.mono h (Nat.le_refl _) (by omega) (hT_lt h) hU
theorem hI_go {q : hT} {T U i : Nat} {fr : Int32} {gr : Bool} (h : hI q T U) (hU : U + 1 < 2000000000) : hI (goT q i fr gr).2 T (U + 1) := by
  have hu := hU_le h
  have hup : ∀ {q' : hT}, hI q' T U → hI q' T (U + 1) := fun h' => hI.mono h' (Nat.le_refl _) (by omega) (hT_lt h) hU
  unfold goT
  simp only
  split
  · show hI (if _ then _ else _) _ _
    split
    · exact hI_fault h hU
    · exact hup h
  · split
    · show hI (if _ then _ else _) _ _
      split
      · exact hup h
      · exact hI_fault h hU
    · split
      · exact hup h
      · split
        · exact hup h
        · split
          · show hI (if _ then _ else _) _ _
            split
            · exact hup h
            · exact hI.tU h (by show q.2.1.1 + 1 ≤ U + 1; omega) hU
          · split
            · exact hup (hI.tS h rfl (.inl rfl))
            · exact hI_fault h hU
theorem hI_look {fr : Int32} {gr : Bool} : ∀ (n i : Nat) {q : hT} {T U : Nat}, hI q T U → U + n < 2000000000 → hI (lookT q fr gr n i).2 T (U + n)
  | 0, i, q, T, U, h, _ => h
  | n + 1, i, q, T, U, h, hU => by
    rw [lookT]
    have h1 := hI_go (i := i) (fr := fr) (gr := gr) h (by omega)
    split
    · have := hI_look (fr := fr) (gr := gr) n (i + 1) h1 (by omega)
      rw [show U + 1 + n = U + (n + 1) by omega] at this
      exact this
    · exact hI.mono h1 (Nat.le_refl _) (by omega) (hT_lt h) hU
theorem hI_come {q : hT} {T U : Nat} {f t : Int32} (h : hI q T U) (hU : U + 6 < 2000000000) : hI (comeT q f t).2 T (U + 6) := by
  have h6 : q.2.2.2.2.2.2.2.1 ≤ 6 := by
    obtain ⟨c, a1, a2, a3, a4, a5, a6, a7, a8, a9, a10, a11, a12, a13, a14⟩ := h
    exact a13
  unfold comeT
  split
  · exact hI_clear (hI.mono (hI_look _ 0 h (by omega)) (Nat.le_refl _) (by omega) (hT_lt h) hU)
  · exact hI_clear (hI.mono h (Nat.le_refl _) (by omega) (hT_lt h) hU)
theorem hI_new (a : Int32) : hI (newT a) 0 1 := by
  unfold newT
  refine hI_form (U := 0) ⟨0, nI_0.symm, Nat.le_refl _, by omega, Nat.le_refl _, by omega, Nat.zero_le _, Nat.zero_le _, ?_, ?_, ?_, ?_, ?_, Nat.zero_le _, ?_⟩ (by omega) (.inl rfl) (by show (0 : Nat) < 5; omega)
  · intro x hx; cases hx
  · intro x hx; cases hx
  · intro x hx; cases hx
  · exact List.nodup_nil
  · exact List.nodup_nil
  · intro i hi; exact absurd hi (Nat.not_lt_zero i)
end ZInv2
