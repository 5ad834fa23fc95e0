/-! The model by states: entries age (walks by a program, gen72.py). -/
theorem l_ageEntries {g : zG} {ws : va_W} {post : Option Value → va_W → Prop} {B : Nat → Nat} {q : hT} {t : Int32} {R : va_W} (h : mS g B q t R ws) {e : Nat} (he : e < 999999) (ht : q.1.2.1 = nI (e + 1)) (k : ∀ w, mS g B (tA (tP (tR q (q.2.2.2.2.1.filter (fun x : zTD => decide (nI (e + 1) < x.2.1)))) (q.2.2.2.2.2.1.filter (fun x : zTD => decide (nI (e + 1) < x.2.1)))) (q.2.2.2.2.2.2.1.filter (fun x : zTD => decide (nI (e + 1) < x.2.1)))) t R w → post none w) : zC g i_Mo_ageEntries [.ref (B 0)] ws post := by
  refine zC.intro (by decide +kernel) rfl (Nat.le_of_ble_eq_true rfl) fun x0 hq => ?_
  have inner : ∀ (c : Nat), c < 3 → ∀ (q1 : hT), q1.1.2.1 = nI (e + 1) → (∀ (ws : va_W) (o : Option Value), mS g B (tE q1 c ((ent q1 c).filter (fun x : zTD => decide (nI (e + 1) < x.2.1)))) t R ws → zW x0 g i_Mo_ageEntries 55 [some (.ref (B 0)), some (.int (nI c)), o] [] ws 0 0) → ∀ (rest done : List zTD) (ws : va_W), mS g B (tE q1 c (done ++ rest)) t R ws → done ++ rest.filter (fun x : zTD => decide (nI (e + 1) < x.2.1)) = (ent q1 c).filter (fun x : zTD => decide (nI (e + 1) < x.2.1)) → zW x0 g i_Mo_ageEntries 12 [some (.ref (B 0)), some (.int (nI c)), some (.int (nI (8 * c + done.length)))] [] ws 0 0 := by
    intro c hc q1 ht1 kx rest
    have hcap := cap_le c
    induction rest with
    | nil =>
      intro done ws hS hd
      have hS2 := hS
      obtain ⟨m, F, hr, hs⟩ := hS
      have hE := hr.2.2.2.2.1 c hc
      rw [ent_tE hc hc, if_pos rfl, List.append_nil] at hE
      have e25 := hE.1
      have hlen := hE.2.1
      rw [List.filter_nil] at hd
      rw [hd] at hS2
      refine zo_iload_n (i := i_Mo_ageEntries) (pc := 12) d_Mo_ageEntries_12 rfl ?_
      refine zo_bipush (i := i_Mo_ageEntries) (pc := 13) (v := 8) d_Mo_ageEntries_13 (by decide) ?_
      refine zo_iload_n (i := i_Mo_ageEntries) (pc := 15) d_Mo_ageEntries_15 rfl ?_
      refine zo_imul (i := i_Mo_ageEntries) (pc := 16) d_Mo_ageEntries_16 ?_
      refine zo_aload_n (i := i_Mo_ageEntries) (pc := 17) d_Mo_ageEntries_17 rfl rfl ?_
      refine zo_get (i := i_Mo_ageEntries) (pc := 18) 10 25 rfl zok_Mo (Nat.le_of_ble_eq_true rfl) (ztb_of k_883 rfl) d_Mo_ageEntries_18 (fun _ _ _ h => h) (hs.get (t := 0) rfl) rfl ?_
      refine zo_iload_n (i := i_Mo_ageEntries) (pc := 21) d_Mo_ageEntries_21 rfl ?_
      refine zo_iaload (i := i_Mo_ageEntries) (pc := 22) d_Mo_ageEntries_22 (hs.get (t := 15) rfl) (vp_in_nI (by omega) (by decide)) ?_
      refine zo_iadd (i := i_Mo_ageEntries) (pc := 23) d_Mo_ageEntries_23 ?_
      refine zo_icmp_ge (i := i_Mo_ageEntries) (pc := 24) (tgt := 55) d_Mo_ageEntries_24 (by decide) (fun h24 => ?_) (fun h24 => False.elim (by first | exact absurd h24 ((by rw [m8 c hc, nI_clamp (show c < 2 ^ 31 by omega), e25, nI_add]; exact nI_le (by omega) (by omega))) | exact absurd ((by rw [m8 c hc, nI_clamp (show c < 2 ^ 31 by omega), e25, nI_add]; exact nI_le (by omega) (by omega))) h24))
      exact kx ws _ hS2
    | cons x r ih =>
      intro done ws hS hd
      obtain ⟨m, F, hr, hs⟩ := hS
      have hE := hr.2.2.2.2.1 c hc
      rw [ent_tE hc hc, if_pos rfl] at hE
      obtain ⟨e25, hlen, g3, g4, g5⟩ := hE
      rw [List.length_append, List.length_cons] at e25 hlen
      have hx : (done ++ x :: r)[done.length]? = some x := mid done r x
      have e27 : F 27 (nI (8 * c + done.length)).toNatClampNeg = cv x.2.1 := by rw [nI_clamp (by omega)]; exact g4 done.length x hx
      have hm2 : m 2 = nI (e + 1) := by rw [hr.1.2.2.1, (tE_1 q1 c _).1]; exact ht1
      have hn1 : ∀ y : zTD, nI (8 * c + (done.length + 1)) = nI (8 * c + (done ++ [y]).length) := fun y => by rw [List.length_append]; rfl
      have hcl : cv x.2.1 ≤ nI (e + 1) ↔ ¬ nI (e + 1) < x.2.1 := cv_le (c_small (by omega))
      refine zo_iload_n (i := i_Mo_ageEntries) (pc := 12) d_Mo_ageEntries_12 rfl ?_
      refine zo_bipush (i := i_Mo_ageEntries) (pc := 13) (v := 8) d_Mo_ageEntries_13 (by decide) ?_
      refine zo_iload_n (i := i_Mo_ageEntries) (pc := 15) d_Mo_ageEntries_15 rfl ?_
      refine zo_imul (i := i_Mo_ageEntries) (pc := 16) d_Mo_ageEntries_16 ?_
      refine zo_aload_n (i := i_Mo_ageEntries) (pc := 17) d_Mo_ageEntries_17 rfl rfl ?_
      refine zo_get (i := i_Mo_ageEntries) (pc := 18) 10 25 rfl zok_Mo (Nat.le_of_ble_eq_true rfl) (ztb_of k_883 rfl) d_Mo_ageEntries_18 (fun _ _ _ h => h) (hs.get (t := 0) rfl) rfl ?_
      refine zo_iload_n (i := i_Mo_ageEntries) (pc := 21) d_Mo_ageEntries_21 rfl ?_
      refine zo_iaload (i := i_Mo_ageEntries) (pc := 22) d_Mo_ageEntries_22 (hs.get (t := 15) rfl) (vp_in_nI (by omega) (by decide)) ?_
      refine zo_iadd (i := i_Mo_ageEntries) (pc := 23) d_Mo_ageEntries_23 ?_
      refine zo_icmp_ge (i := i_Mo_ageEntries) (pc := 24) (tgt := 55) d_Mo_ageEntries_24 (by decide) (fun h24 => False.elim (by first | exact absurd h24 ((by rw [m8 c hc, nI_clamp (show c < 2 ^ 31 by omega), e25, nI_add]; exact nI_ge (by omega) (by omega))) | exact absurd ((by rw [m8 c hc, nI_clamp (show c < 2 ^ 31 by omega), e25, nI_add]; exact nI_ge (by omega) (by omega))) h24)) (fun h24 => ?_)
      refine zo_aload_n (i := i_Mo_ageEntries) (pc := 27) d_Mo_ageEntries_27 rfl rfl ?_
      refine zo_get (i := i_Mo_ageEntries) (pc := 28) 10 27 rfl zok_Mo (Nat.le_of_ble_eq_true rfl) (ztb_of k_885 rfl) d_Mo_ageEntries_28 (fun _ _ _ h => h) (hs.get (t := 0) rfl) rfl ?_
      refine zo_iload_n (i := i_Mo_ageEntries) (pc := 31) d_Mo_ageEntries_31 rfl ?_
      refine zo_iaload (i := i_Mo_ageEntries) (pc := 32) d_Mo_ageEntries_32 (hs.get (t := 17) rfl) (vp_in_nI (by omega) (by decide)) ?_
      refine zo_aload_n (i := i_Mo_ageEntries) (pc := 33) d_Mo_ageEntries_33 rfl rfl ?_
      refine zo_get (i := i_Mo_ageEntries) (pc := 34) 10 2 rfl zok_Mo (Nat.le_of_ble_eq_true rfl) (ztb_of k_860 rfl) d_Mo_ageEntries_34 (fun _ _ _ h => h) (hs.get (t := 0) rfl) rfl ?_
      refine zo_icmp_gt (i := i_Mo_ageEntries) (pc := 37) (tgt := 49) d_Mo_ageEntries_37 (by decide) (fun h37 => ?_) (fun h37 => ?_)
      · refine zo_iinc (i := i_Mo_ageEntries) (pc := 49) (v := nI (8 * c + (done.length + 1))) d_Mo_ageEntries_49 rfl (nI_inc (8 * c + done.length)) (Nat.le_of_ble_eq_true rfl) ?_
        refine zo_goto (i := i_Mo_ageEntries) (pc := 52) (tgt := 12) d_Mo_ageEntries_52 (by decide) ?_
        rw [e27, hm2] at h37
        have hp : nI (e + 1) < x.2.1 := Decidable.not_not.mp (fun hh => absurd (hcl.mpr hh) (Int32.not_le.mpr h37))
        rw [List.filter_cons_of_pos (by exact decide_eq_true hp), mid_next] at hd
        rw [hn1 x]
        refine ih (done ++ [x]) ws ⟨m, F, ?_, hs⟩ hd
        rw [← mid_next]
        exact hr
      · rw [e27, hm2] at h37
        refine zo_aload_n (i := i_Mo_ageEntries) (pc := 40) d_Mo_ageEntries_40 rfl rfl ?_
        refine zo_iload_n (i := i_Mo_ageEntries) (pc := 41) d_Mo_ageEntries_41 rfl ?_
        refine zo_iload_n (i := i_Mo_ageEntries) (pc := 42) d_Mo_ageEntries_42 rfl ?_
        refine zc_V2 (i := i_Mo_ageEntries) (pc := 43) 10 rfl m_Mo_dropEntry (ztb_of k_996 rfl) (ztb_of k_998 rfl) s_Mo_dropEntry d_Mo_ageEntries_43 (Nat.le_of_ble_eq_true rfl) (Nat.le_of_ble_eq_true rfl) (Nat.le_of_ble_eq_true rfl) (Nat.le_of_ble_eq_true rfl) (hs.get (t := 0) rfl) (l_dropEntry ⟨_, _, hr, hs⟩ hc (by rw [ent_tE hc hc, if_pos rfl, List.length_append, List.length_cons]; omega) fun ws hS => ?_)
        refine zo_goto (i := i_Mo_ageEntries) (pc := 46) (tgt := 12) d_Mo_ageEntries_46 (by decide) ?_
        rw [List.filter_cons_of_neg (by simp; exact Int32.not_lt.mp (hcl.mp (Int32.not_lt.mp h37)))] at hd
        refine ih done ws ?_ hd
        rw [ent_tE hc hc, if_pos rfl, tE_tE hc, mid_erase] at hS
        exact hS
  obtain ⟨m, F, hr, hs⟩ := h
  refine zo_iconst (i := i_Mo_ageEntries) (pc := 0) (v := 0) d_Mo_ageEntries_0 (by decide) ?_
  rw [← nI_0]
  refine zo_istore_n (i := i_Mo_ageEntries) (pc := 1) d_Mo_ageEntries_1 (Nat.le_of_ble_eq_true rfl) ?_
  refine zo_iload_n (i := i_Mo_ageEntries) (pc := 2) d_Mo_ageEntries_2 rfl ?_
  refine zo_iconst (i := i_Mo_ageEntries) (pc := 3) (v := 3) d_Mo_ageEntries_3 (by decide) ?_
  refine zo_icmp_ge (i := i_Mo_ageEntries) (pc := 4) (tgt := 61) d_Mo_ageEntries_4 (by decide) (fun h4 => False.elim (by first | exact absurd h4 ((by decide)) | exact absurd ((by decide)) h4)) (fun h4 => ?_)
  refine zo_bipush (i := i_Mo_ageEntries) (pc := 7) (v := 8) d_Mo_ageEntries_7 (by decide) ?_
  refine zo_iload_n (i := i_Mo_ageEntries) (pc := 9) d_Mo_ageEntries_9 rfl ?_
  refine zo_imul (i := i_Mo_ageEntries) (pc := 10) d_Mo_ageEntries_10 ?_
  rw [m8 0 (by decide)]
  refine zo_istore_n (i := i_Mo_ageEntries) (pc := 11) d_Mo_ageEntries_11 (Nat.le_of_ble_eq_true rfl) ?_
  refine inner 0 (by omega) (q) ht (fun ws o hS => ?_) (ent (q) 0) [] ws (by rw [List.nil_append, tE_self (by omega)]; exact ⟨m, F, hr, hs⟩) rfl
  refine zo_iinc (i := i_Mo_ageEntries) (pc := 55) (v := nI 1) d_Mo_ageEntries_55 rfl (nI_inc 0) (Nat.le_of_ble_eq_true rfl) ?_
  refine zo_goto (i := i_Mo_ageEntries) (pc := 58) (tgt := 2) d_Mo_ageEntries_58 (by decide) ?_
  refine zo_iload_n (i := i_Mo_ageEntries) (pc := 2) d_Mo_ageEntries_2 rfl ?_
  refine zo_iconst (i := i_Mo_ageEntries) (pc := 3) (v := 3) d_Mo_ageEntries_3 (by decide) ?_
  refine zo_icmp_ge (i := i_Mo_ageEntries) (pc := 4) (tgt := 61) d_Mo_ageEntries_4 (by decide) (fun h4 => False.elim (by first | exact absurd h4 ((by decide)) | exact absurd ((by decide)) h4)) (fun h4 => ?_)
  refine zo_bipush (i := i_Mo_ageEntries) (pc := 7) (v := 8) d_Mo_ageEntries_7 (by decide) ?_
  refine zo_iload_n (i := i_Mo_ageEntries) (pc := 9) d_Mo_ageEntries_9 rfl ?_
  refine zo_imul (i := i_Mo_ageEntries) (pc := 10) d_Mo_ageEntries_10 ?_
  rw [m8 1 (by decide)]
  refine zo_istore_n (i := i_Mo_ageEntries) (pc := 11) d_Mo_ageEntries_11 (Nat.le_of_ble_eq_true rfl) ?_
  refine inner 1 (by omega) (tE (q) 0 ((ent (q) 0).filter (fun x : zTD => decide (nI (e + 1) < x.2.1)))) ht (fun ws o hS => ?_) (ent (tE (q) 0 ((ent (q) 0).filter (fun x : zTD => decide (nI (e + 1) < x.2.1)))) 1) [] ws (by rw [List.nil_append, tE_self (by omega)]; exact hS) rfl
  refine zo_iinc (i := i_Mo_ageEntries) (pc := 55) (v := nI 2) d_Mo_ageEntries_55 rfl (nI_inc 1) (Nat.le_of_ble_eq_true rfl) ?_
  refine zo_goto (i := i_Mo_ageEntries) (pc := 58) (tgt := 2) d_Mo_ageEntries_58 (by decide) ?_
  refine zo_iload_n (i := i_Mo_ageEntries) (pc := 2) d_Mo_ageEntries_2 rfl ?_
  refine zo_iconst (i := i_Mo_ageEntries) (pc := 3) (v := 3) d_Mo_ageEntries_3 (by decide) ?_
  refine zo_icmp_ge (i := i_Mo_ageEntries) (pc := 4) (tgt := 61) d_Mo_ageEntries_4 (by decide) (fun h4 => False.elim (by first | exact absurd h4 ((by decide)) | exact absurd ((by decide)) h4)) (fun h4 => ?_)
  refine zo_bipush (i := i_Mo_ageEntries) (pc := 7) (v := 8) d_Mo_ageEntries_7 (by decide) ?_
  refine zo_iload_n (i := i_Mo_ageEntries) (pc := 9) d_Mo_ageEntries_9 rfl ?_
  refine zo_imul (i := i_Mo_ageEntries) (pc := 10) d_Mo_ageEntries_10 ?_
  rw [m8 2 (by decide)]
  refine zo_istore_n (i := i_Mo_ageEntries) (pc := 11) d_Mo_ageEntries_11 (Nat.le_of_ble_eq_true rfl) ?_
  refine inner 2 (by omega) (tE (tE (q) 0 ((ent (q) 0).filter (fun x : zTD => decide (nI (e + 1) < x.2.1)))) 1 ((ent (tE (q) 0 ((ent (q) 0).filter (fun x : zTD => decide (nI (e + 1) < x.2.1)))) 1).filter (fun x : zTD => decide (nI (e + 1) < x.2.1)))) ht (fun ws o hS => ?_) (ent (tE (tE (q) 0 ((ent (q) 0).filter (fun x : zTD => decide (nI (e + 1) < x.2.1)))) 1 ((ent (tE (q) 0 ((ent (q) 0).filter (fun x : zTD => decide (nI (e + 1) < x.2.1)))) 1).filter (fun x : zTD => decide (nI (e + 1) < x.2.1)))) 2) [] ws (by rw [List.nil_append, tE_self (by omega)]; exact hS) rfl
  refine zo_iinc (i := i_Mo_ageEntries) (pc := 55) (v := nI 3) d_Mo_ageEntries_55 rfl (nI_inc 2) (Nat.le_of_ble_eq_true rfl) ?_
  refine zo_goto (i := i_Mo_ageEntries) (pc := 58) (tgt := 2) d_Mo_ageEntries_58 (by decide) ?_
  refine zo_iload_n (i := i_Mo_ageEntries) (pc := 2) d_Mo_ageEntries_2 rfl ?_
  refine zo_iconst (i := i_Mo_ageEntries) (pc := 3) (v := 3) d_Mo_ageEntries_3 (by decide) ?_
  refine zo_icmp_ge (i := i_Mo_ageEntries) (pc := 4) (tgt := 61) d_Mo_ageEntries_4 (by decide) (fun h4 => ?_) (fun h4 => False.elim (by first | exact absurd h4 ((by decide)) | exact absurd ((by decide)) h4))
  refine zo_return (i := i_Mo_ageEntries) (pc := 61) hq d_Mo_ageEntries_61 rfl (Nat.le_of_ble_eq_true rfl) (Nat.le_of_ble_eq_true rfl) ?_
  exact k ws hS
