/-! The model by states: an entry is kept (walks by a program, gen69.py). -/
theorem l_enter {g : zG} {ws : va_W} {post : Option Value → va_W → Prop} {B : Nat → Nat} {q : hT} {t : Int32} {R : va_W} (h : mS g B q t R ws) {c : Nat} (hc : c < 3) {a e e' z : Int32} (he : e' = cv e) (k : ∀ w, mS g B (tE q c (tkeep (cap c) (a, e, z) (ent q c))) t R w → post none w) : zC g i_Mo_enter [.ref (B 0), .int (nI c), .int a, .int e', .int z] ws post := by
  refine zC.intro (by decide +kernel) rfl (Nat.le_of_ble_eq_true rfl) fun x0 hq => ?_
  have tail : ∀ (q1 : hT) (ws : va_W) (o : Option Value), mS g B q1 t R ws → (ent q1 c).length < cap c → (∀ w, mS g B (tE q1 c (ent q1 c ++ [(a, e, z)])) t R w → post none w) → zW x0 g i_Mo_enter 40 [some (.ref (B 0)), some (.int (nI c)), some (.int a), some (.int e'), some (.int z), o] [] ws 0 0 := by
    intro q1 ws o h1 hlt kk
    obtain ⟨m, F, hr, hs⟩ := h1
    have hcap := cap_le c
    obtain ⟨n, hn⟩ : ∃ n, (ent q1 c).length = n := ⟨_, rfl⟩
    have hm : F 25 c = nI n := by rw [← hn]; exact (hr.2.2.2.2.1 c hc).1
    rw [hn] at hlt
    refine zo_bipush (i := i_Mo_enter) (pc := 40) (v := 8) d_Mo_enter_40 (by decide) ?_
    refine zo_iload_n (i := i_Mo_enter) (pc := 42) d_Mo_enter_42 rfl ?_
    refine zo_imul (i := i_Mo_enter) (pc := 43) d_Mo_enter_43 ?_
    refine zo_aload_n (i := i_Mo_enter) (pc := 44) d_Mo_enter_44 rfl rfl ?_
    refine zo_get (i := i_Mo_enter) (pc := 45) 10 25 rfl zok_Mo (Nat.le_of_ble_eq_true rfl) (ztb_of k_883 rfl) d_Mo_enter_45 (fun _ _ _ h => h) (hs.get (t := 0) rfl) rfl ?_
    refine zo_iload_n (i := i_Mo_enter) (pc := 48) d_Mo_enter_48 rfl ?_
    refine zo_iaload (i := i_Mo_enter) (pc := 49) d_Mo_enter_49 (hs.get (t := 15) rfl) (vp_in_nI (by omega) (by decide)) ?_
    refine zo_iadd (i := i_Mo_enter) (pc := 50) d_Mo_enter_50 ?_
    rw [show (8 : Int32) * nI c + F 25 (nI c).toNatClampNeg = nI (8 * c + n) by rw [m8 c hc, nI_clamp (show c < 2 ^ 31 by omega), hm, nI_add]]
    refine zo_istore (i := i_Mo_enter) (pc := 51) d_Mo_enter_51 (Nat.le_of_ble_eq_true rfl) ?_
    refine zo_aload_n (i := i_Mo_enter) (pc := 53) d_Mo_enter_53 rfl rfl ?_
    refine zo_get (i := i_Mo_enter) (pc := 54) 10 25 rfl zok_Mo (Nat.le_of_ble_eq_true rfl) (ztb_of k_883 rfl) d_Mo_enter_54 (fun _ _ _ h => h) (hs.get (t := 0) rfl) rfl ?_
    refine zo_iload_n (i := i_Mo_enter) (pc := 57) d_Mo_enter_57 rfl ?_
    refine zo_dup2 (i := i_Mo_enter) (pc := 58) d_Mo_enter_58 rfl rfl ?_
    refine zo_iaload (i := i_Mo_enter) (pc := 59) d_Mo_enter_59 (hs.get (t := 15) rfl) (vp_in_nI (by omega) (by decide)) ?_
    refine zo_iconst (i := i_Mo_enter) (pc := 60) (v := 1) d_Mo_enter_60 (by decide) ?_
    refine zo_iadd (i := i_Mo_enter) (pc := 61) d_Mo_enter_61 ?_
    refine zh_iastore (i := i_Mo_enter) (pc := 62) d_Mo_enter_62 hs 15 rfl (vp_in_nI (by omega) (by decide)) fun ws hs => ?_
    refine zo_aload_n (i := i_Mo_enter) (pc := 63) d_Mo_enter_63 rfl rfl ?_
    refine zo_get (i := i_Mo_enter) (pc := 64) 10 26 rfl zok_Mo (Nat.le_of_ble_eq_true rfl) (ztb_of k_884 rfl) d_Mo_enter_64 (fun _ _ _ h => h) (hs.get (t := 0) rfl) rfl ?_
    refine zo_iload (i := i_Mo_enter) (pc := 67) d_Mo_enter_67 rfl ?_
    refine zo_iload_n (i := i_Mo_enter) (pc := 69) d_Mo_enter_69 rfl ?_
    refine zh_iastore (i := i_Mo_enter) (pc := 70) d_Mo_enter_70 hs 16 rfl (vp_in_nI (by omega) (by decide)) fun ws hs => ?_
    refine zo_aload_n (i := i_Mo_enter) (pc := 71) d_Mo_enter_71 rfl rfl ?_
    refine zo_get (i := i_Mo_enter) (pc := 72) 10 27 rfl zok_Mo (Nat.le_of_ble_eq_true rfl) (ztb_of k_885 rfl) d_Mo_enter_72 (fun _ _ _ h => h) (hs.get (t := 0) rfl) rfl ?_
    refine zo_iload (i := i_Mo_enter) (pc := 75) d_Mo_enter_75 rfl ?_
    refine zo_iload_n (i := i_Mo_enter) (pc := 77) d_Mo_enter_77 rfl ?_
    refine zh_iastore (i := i_Mo_enter) (pc := 78) d_Mo_enter_78 hs 17 rfl (vp_in_nI (by omega) (by decide)) fun ws hs => ?_
    refine zo_aload_n (i := i_Mo_enter) (pc := 79) d_Mo_enter_79 rfl rfl ?_
    refine zo_get (i := i_Mo_enter) (pc := 80) 10 28 rfl zok_Mo (Nat.le_of_ble_eq_true rfl) (ztb_of k_886 rfl) d_Mo_enter_80 (fun _ _ _ h => h) (hs.get (t := 0) rfl) rfl ?_
    refine zo_iload (i := i_Mo_enter) (pc := 83) d_Mo_enter_83 rfl ?_
    refine zo_iload (i := i_Mo_enter) (pc := 85) d_Mo_enter_85 rfl ?_
    refine zh_iastore (i := i_Mo_enter) (pc := 87) d_Mo_enter_87 hs 18 rfl (vp_in_nI (by omega) (by decide)) fun ws hs => ?_
    refine zo_return (i := i_Mo_enter) (pc := 88) hq d_Mo_enter_88 rfl (Nat.le_of_ble_eq_true rfl) (Nat.le_of_ble_eq_true rfl) ?_
    replace hs : zHas ws (moW g B m (mup (mup (mup (mup F 25 (upd (F 25) (nI c).toNatClampNeg (F 25 (nI c).toNatClampNeg + 1))) 26 (upd (F 26) (nI (8 * c + n)).toNatClampNeg a)) 27 (upd (F 27) (nI (8 * c + n)).toNatClampNeg e')) 28 (upd (F 28) (nI (8 * c + n)).toNatClampNeg z)) ++ R) := hs
    simp only [nI_clamp (show c < 2 ^ 31 by omega), nI_clamp (show 8 * c + n < 2 ^ 31 by omega), hm, nI_1] at hs
    exact kk ws ⟨_, _, hr.entryPush hc hn hlt he, hs⟩
  obtain ⟨m, F, hr, hs⟩ := h
  have hcap := cap_le c
  have hle := (hr.2.2.2.2.1 c hc).2.1
  refine zo_aload_n (i := i_Mo_enter) (pc := 0) d_Mo_enter_0 rfl rfl ?_
  refine zo_iload_n (i := i_Mo_enter) (pc := 1) d_Mo_enter_1 rfl ?_
  refine zo_iload_n (i := i_Mo_enter) (pc := 2) d_Mo_enter_2 rfl ?_
  refine zc_V2 (i := i_Mo_enter) (pc := 3) 10 rfl m_Mo_entryAt (ztb_of k_1032 rfl) (ztb_of k_1034 rfl) s_Mo_entryAt d_Mo_enter_3 (Nat.le_of_ble_eq_true rfl) (Nat.le_of_ble_eq_true rfl) (Nat.le_of_ble_eq_true rfl) (Nat.le_of_ble_eq_true rfl) (hs.get (t := 0) rfl) (l_entryAt ⟨_, _, hr, hs⟩ hc (fun j x hx hxa hf hset => ?_) (fun hf => ?_))
  · have hj := len_of hx
    have e1 : tkeep (cap c) (a, e, z) (ent q c) = (ent q c).set j (a, e, z) := by
      unfold tkeep
      rw [hf]
      exact hset _
    refine zo_istore (i := i_Mo_enter) (pc := 6) d_Mo_enter_6 (Nat.le_of_ble_eq_true rfl) ?_
    refine zo_iload (i := i_Mo_enter) (pc := 8) d_Mo_enter_8 rfl ?_
    refine zo_if_ge (i := i_Mo_enter) (pc := 10) (tgt := 63) d_Mo_enter_10 (by decide) (fun h10 => ?_) (fun h10 => False.elim (by first | exact absurd h10 ((nI_pos' (by omega))) | exact absurd ((nI_pos' (by omega))) h10))
    refine zo_aload_n (i := i_Mo_enter) (pc := 63) d_Mo_enter_63 rfl rfl ?_
    refine zo_get (i := i_Mo_enter) (pc := 64) 10 26 rfl zok_Mo (Nat.le_of_ble_eq_true rfl) (ztb_of k_884 rfl) d_Mo_enter_64 (fun _ _ _ h => h) (hs.get (t := 0) rfl) rfl ?_
    refine zo_iload (i := i_Mo_enter) (pc := 67) d_Mo_enter_67 rfl ?_
    refine zo_iload_n (i := i_Mo_enter) (pc := 69) d_Mo_enter_69 rfl ?_
    refine zh_iastore (i := i_Mo_enter) (pc := 70) d_Mo_enter_70 hs 16 rfl (vp_in_nI (by omega) (by decide)) fun ws hs => ?_
    refine zo_aload_n (i := i_Mo_enter) (pc := 71) d_Mo_enter_71 rfl rfl ?_
    refine zo_get (i := i_Mo_enter) (pc := 72) 10 27 rfl zok_Mo (Nat.le_of_ble_eq_true rfl) (ztb_of k_885 rfl) d_Mo_enter_72 (fun _ _ _ h => h) (hs.get (t := 0) rfl) rfl ?_
    refine zo_iload (i := i_Mo_enter) (pc := 75) d_Mo_enter_75 rfl ?_
    refine zo_iload_n (i := i_Mo_enter) (pc := 77) d_Mo_enter_77 rfl ?_
    refine zh_iastore (i := i_Mo_enter) (pc := 78) d_Mo_enter_78 hs 17 rfl (vp_in_nI (by omega) (by decide)) fun ws hs => ?_
    refine zo_aload_n (i := i_Mo_enter) (pc := 79) d_Mo_enter_79 rfl rfl ?_
    refine zo_get (i := i_Mo_enter) (pc := 80) 10 28 rfl zok_Mo (Nat.le_of_ble_eq_true rfl) (ztb_of k_886 rfl) d_Mo_enter_80 (fun _ _ _ h => h) (hs.get (t := 0) rfl) rfl ?_
    refine zo_iload (i := i_Mo_enter) (pc := 83) d_Mo_enter_83 rfl ?_
    refine zo_iload (i := i_Mo_enter) (pc := 85) d_Mo_enter_85 rfl ?_
    refine zh_iastore (i := i_Mo_enter) (pc := 87) d_Mo_enter_87 hs 18 rfl (vp_in_nI (by omega) (by decide)) fun ws hs => ?_
    refine zo_return (i := i_Mo_enter) (pc := 88) hq d_Mo_enter_88 rfl (Nat.le_of_ble_eq_true rfl) (Nat.le_of_ble_eq_true rfl) ?_
    replace hs : zHas ws (moW g B m (mup (mup (mup F 26 (upd (F 26) (nI (8 * c + j)).toNatClampNeg a)) 27 (upd (F 27) (nI (8 * c + j)).toNatClampNeg e')) 28 (upd (F 28) (nI (8 * c + j)).toNatClampNeg z)) ++ R) := hs
    rw [nI_clamp (show 8 * c + j < 2 ^ 31 by omega)] at hs
    rw [e1] at k
    exact k ws ⟨_, _, hr.entrySet hc hj he, hs⟩
  · have e1 : tkeep (cap c) (a, e, z) (ent q c) = zcap (cap c) (ent q c) ++ [(a, e, z)] := by
      unfold tkeep
      rw [hf]
    by_cases hc0 : c = 0
    · by_cases hfull : (ent q c).length = cap c
      · have hcp : cap c = 3 := by unfold cap; rw [if_pos hc0]
        rw [hcp] at hfull
        refine zo_istore (i := i_Mo_enter) (pc := 6) d_Mo_enter_6 (Nat.le_of_ble_eq_true rfl) ?_
        refine zo_iload (i := i_Mo_enter) (pc := 8) d_Mo_enter_8 rfl ?_
        refine zo_if_ge (i := i_Mo_enter) (pc := 10) (tgt := 63) d_Mo_enter_10 (by decide) (fun h10 => False.elim (by first | exact absurd h10 ((by decide)) | exact absurd ((by decide)) h10)) (fun h10 => ?_)
        refine zo_aload_n (i := i_Mo_enter) (pc := 13) d_Mo_enter_13 rfl rfl ?_
        refine zo_get (i := i_Mo_enter) (pc := 14) 10 25 rfl zok_Mo (Nat.le_of_ble_eq_true rfl) (ztb_of k_883 rfl) d_Mo_enter_14 (fun _ _ _ h => h) (hs.get (t := 0) rfl) rfl ?_
        refine zo_iload_n (i := i_Mo_enter) (pc := 17) d_Mo_enter_17 rfl ?_
        refine zo_iaload (i := i_Mo_enter) (pc := 18) d_Mo_enter_18 (hs.get (t := 15) rfl) (vp_in_nI (by omega) (by decide)) ?_
        refine zo_iload_n (i := i_Mo_enter) (pc := 19) d_Mo_enter_19 rfl ?_
        refine zo_if_ne (i := i_Mo_enter) (pc := 20) (tgt := 27) d_Mo_enter_20 (by decide) (fun h20 => False.elim (by first | exact absurd h20 ((by rw [hc0]; rfl)) | exact absurd ((by rw [hc0]; rfl)) h20)) (fun h20 => ?_)
        refine zo_iconst (i := i_Mo_enter) (pc := 23) (v := 3) d_Mo_enter_23 (by decide) ?_
        refine zo_goto (i := i_Mo_enter) (pc := 24) (tgt := 28) d_Mo_enter_24 (by decide) ?_
        refine zo_icmp_ne (i := i_Mo_enter) (pc := 28) (tgt := 40) d_Mo_enter_28 (by decide) (fun h28 => False.elim (by first | exact absurd h28 ((by rw [nI_clamp (show c < 2 ^ 31 by omega), (hr.2.2.2.2.1 c hc).1]; rw [hfull]; rfl)) | exact absurd ((by rw [nI_clamp (show c < 2 ^ 31 by omega), (hr.2.2.2.2.1 c hc).1]; rw [hfull]; rfl)) h28)) (fun h28 => ?_)
        refine zo_aload_n (i := i_Mo_enter) (pc := 31) d_Mo_enter_31 rfl rfl ?_
        refine zo_iload_n (i := i_Mo_enter) (pc := 32) d_Mo_enter_32 rfl ?_
        refine zo_bipush (i := i_Mo_enter) (pc := 33) (v := 8) d_Mo_enter_33 (by decide) ?_
        refine zo_iload_n (i := i_Mo_enter) (pc := 35) d_Mo_enter_35 rfl ?_
        refine zo_imul (i := i_Mo_enter) (pc := 36) d_Mo_enter_36 ?_
        rw [m8 c hc]
        refine zc_V2 (i := i_Mo_enter) (pc := 37) 10 rfl m_Mo_dropEntry (ztb_of k_996 rfl) (ztb_of k_998 rfl) s_Mo_dropEntry d_Mo_enter_37 (Nat.le_of_ble_eq_true rfl) (Nat.le_of_ble_eq_true rfl) (Nat.le_of_ble_eq_true rfl) (Nat.le_of_ble_eq_true rfl) (hs.get (t := 0) rfl) (l_dropEntry (i := 0) ⟨_, _, hr, hs⟩ hc (by omega) fun ws hS => ?_)
        refine tail _ _ _ hS ?_ ?_
        · rw [ent_tE hc hc, if_pos rfl, List.length_eraseIdx_of_lt (by omega), hcp]
          omega
        · rw [ent_tE hc hc, if_pos rfl, tE_tE hc]
          rw [e1, hcp] at k
          have e2 : zcap 3 (ent q c) = (ent q c).eraseIdx 0 := by unfold zcap; rw [if_pos (by omega)]
          rw [e2] at k
          exact k
      · have hcp : cap c = 3 := by unfold cap; rw [if_pos hc0]
        rw [hcp] at hfull
        refine zo_istore (i := i_Mo_enter) (pc := 6) d_Mo_enter_6 (Nat.le_of_ble_eq_true rfl) ?_
        refine zo_iload (i := i_Mo_enter) (pc := 8) d_Mo_enter_8 rfl ?_
        refine zo_if_ge (i := i_Mo_enter) (pc := 10) (tgt := 63) d_Mo_enter_10 (by decide) (fun h10 => False.elim (by first | exact absurd h10 ((by decide)) | exact absurd ((by decide)) h10)) (fun h10 => ?_)
        refine zo_aload_n (i := i_Mo_enter) (pc := 13) d_Mo_enter_13 rfl rfl ?_
        refine zo_get (i := i_Mo_enter) (pc := 14) 10 25 rfl zok_Mo (Nat.le_of_ble_eq_true rfl) (ztb_of k_883 rfl) d_Mo_enter_14 (fun _ _ _ h => h) (hs.get (t := 0) rfl) rfl ?_
        refine zo_iload_n (i := i_Mo_enter) (pc := 17) d_Mo_enter_17 rfl ?_
        refine zo_iaload (i := i_Mo_enter) (pc := 18) d_Mo_enter_18 (hs.get (t := 15) rfl) (vp_in_nI (by omega) (by decide)) ?_
        refine zo_iload_n (i := i_Mo_enter) (pc := 19) d_Mo_enter_19 rfl ?_
        refine zo_if_ne (i := i_Mo_enter) (pc := 20) (tgt := 27) d_Mo_enter_20 (by decide) (fun h20 => False.elim (by first | exact absurd h20 ((by rw [hc0]; rfl)) | exact absurd ((by rw [hc0]; rfl)) h20)) (fun h20 => ?_)
        refine zo_iconst (i := i_Mo_enter) (pc := 23) (v := 3) d_Mo_enter_23 (by decide) ?_
        refine zo_goto (i := i_Mo_enter) (pc := 24) (tgt := 28) d_Mo_enter_24 (by decide) ?_
        refine zo_icmp_ne (i := i_Mo_enter) (pc := 28) (tgt := 40) d_Mo_enter_28 (by decide) (fun h28 => ?_) (fun h28 => False.elim (by first | exact absurd h28 ((by rw [nI_clamp (show c < 2 ^ 31 by omega), (hr.2.2.2.2.1 c hc).1]; exact fun hh => hfull ((nI_eq (b := 3) (by omega) (by decide)).mp hh))) | exact absurd ((by rw [nI_clamp (show c < 2 ^ 31 by omega), (hr.2.2.2.2.1 c hc).1]; exact fun hh => hfull ((nI_eq (b := 3) (by omega) (by decide)).mp hh))) h28))
        refine tail _ _ _ ⟨_, _, hr, hs⟩ (by omega) ?_
        rw [e1, hcp] at k
        have e2 : zcap 3 (ent q c) = ent q c := by unfold zcap; rw [if_neg (by omega)]
        rw [e2] at k
        exact k
    · by_cases hfull : (ent q c).length = cap c
      · have hcp : cap c = 4 := by unfold cap; rw [if_neg hc0]
        rw [hcp] at hfull
        refine zo_istore (i := i_Mo_enter) (pc := 6) d_Mo_enter_6 (Nat.le_of_ble_eq_true rfl) ?_
        refine zo_iload (i := i_Mo_enter) (pc := 8) d_Mo_enter_8 rfl ?_
        refine zo_if_ge (i := i_Mo_enter) (pc := 10) (tgt := 63) d_Mo_enter_10 (by decide) (fun h10 => False.elim (by first | exact absurd h10 ((by decide)) | exact absurd ((by decide)) h10)) (fun h10 => ?_)
        refine zo_aload_n (i := i_Mo_enter) (pc := 13) d_Mo_enter_13 rfl rfl ?_
        refine zo_get (i := i_Mo_enter) (pc := 14) 10 25 rfl zok_Mo (Nat.le_of_ble_eq_true rfl) (ztb_of k_883 rfl) d_Mo_enter_14 (fun _ _ _ h => h) (hs.get (t := 0) rfl) rfl ?_
        refine zo_iload_n (i := i_Mo_enter) (pc := 17) d_Mo_enter_17 rfl ?_
        refine zo_iaload (i := i_Mo_enter) (pc := 18) d_Mo_enter_18 (hs.get (t := 15) rfl) (vp_in_nI (by omega) (by decide)) ?_
        refine zo_iload_n (i := i_Mo_enter) (pc := 19) d_Mo_enter_19 rfl ?_
        refine zo_if_ne (i := i_Mo_enter) (pc := 20) (tgt := 27) d_Mo_enter_20 (by decide) (fun h20 => ?_) (fun h20 => False.elim (by first | exact absurd h20 ((nI_ne0 (by omega) (by omega))) | exact absurd ((nI_ne0 (by omega) (by omega))) h20))
        refine zo_iconst (i := i_Mo_enter) (pc := 27) (v := 4) d_Mo_enter_27 (by decide) ?_
        refine zo_icmp_ne (i := i_Mo_enter) (pc := 28) (tgt := 40) d_Mo_enter_28 (by decide) (fun h28 => False.elim (by first | exact absurd h28 ((by rw [nI_clamp (show c < 2 ^ 31 by omega), (hr.2.2.2.2.1 c hc).1]; rw [hfull]; rfl)) | exact absurd ((by rw [nI_clamp (show c < 2 ^ 31 by omega), (hr.2.2.2.2.1 c hc).1]; rw [hfull]; rfl)) h28)) (fun h28 => ?_)
        refine zo_aload_n (i := i_Mo_enter) (pc := 31) d_Mo_enter_31 rfl rfl ?_
        refine zo_iload_n (i := i_Mo_enter) (pc := 32) d_Mo_enter_32 rfl ?_
        refine zo_bipush (i := i_Mo_enter) (pc := 33) (v := 8) d_Mo_enter_33 (by decide) ?_
        refine zo_iload_n (i := i_Mo_enter) (pc := 35) d_Mo_enter_35 rfl ?_
        refine zo_imul (i := i_Mo_enter) (pc := 36) d_Mo_enter_36 ?_
        rw [m8 c hc]
        refine zc_V2 (i := i_Mo_enter) (pc := 37) 10 rfl m_Mo_dropEntry (ztb_of k_996 rfl) (ztb_of k_998 rfl) s_Mo_dropEntry d_Mo_enter_37 (Nat.le_of_ble_eq_true rfl) (Nat.le_of_ble_eq_true rfl) (Nat.le_of_ble_eq_true rfl) (Nat.le_of_ble_eq_true rfl) (hs.get (t := 0) rfl) (l_dropEntry (i := 0) ⟨_, _, hr, hs⟩ hc (by omega) fun ws hS => ?_)
        refine tail _ _ _ hS ?_ ?_
        · rw [ent_tE hc hc, if_pos rfl, List.length_eraseIdx_of_lt (by omega), hcp]
          omega
        · rw [ent_tE hc hc, if_pos rfl, tE_tE hc]
          rw [e1, hcp] at k
          have e2 : zcap 4 (ent q c) = (ent q c).eraseIdx 0 := by unfold zcap; rw [if_pos (by omega)]
          rw [e2] at k
          exact k
      · have hcp : cap c = 4 := by unfold cap; rw [if_neg hc0]
        rw [hcp] at hfull
        refine zo_istore (i := i_Mo_enter) (pc := 6) d_Mo_enter_6 (Nat.le_of_ble_eq_true rfl) ?_
        refine zo_iload (i := i_Mo_enter) (pc := 8) d_Mo_enter_8 rfl ?_
        refine zo_if_ge (i := i_Mo_enter) (pc := 10) (tgt := 63) d_Mo_enter_10 (by decide) (fun h10 => False.elim (by first | exact absurd h10 ((by decide)) | exact absurd ((by decide)) h10)) (fun h10 => ?_)
        refine zo_aload_n (i := i_Mo_enter) (pc := 13) d_Mo_enter_13 rfl rfl ?_
        refine zo_get (i := i_Mo_enter) (pc := 14) 10 25 rfl zok_Mo (Nat.le_of_ble_eq_true rfl) (ztb_of k_883 rfl) d_Mo_enter_14 (fun _ _ _ h => h) (hs.get (t := 0) rfl) rfl ?_
        refine zo_iload_n (i := i_Mo_enter) (pc := 17) d_Mo_enter_17 rfl ?_
        refine zo_iaload (i := i_Mo_enter) (pc := 18) d_Mo_enter_18 (hs.get (t := 15) rfl) (vp_in_nI (by omega) (by decide)) ?_
        refine zo_iload_n (i := i_Mo_enter) (pc := 19) d_Mo_enter_19 rfl ?_
        refine zo_if_ne (i := i_Mo_enter) (pc := 20) (tgt := 27) d_Mo_enter_20 (by decide) (fun h20 => ?_) (fun h20 => False.elim (by first | exact absurd h20 ((nI_ne0 (by omega) (by omega))) | exact absurd ((nI_ne0 (by omega) (by omega))) h20))
        refine zo_iconst (i := i_Mo_enter) (pc := 27) (v := 4) d_Mo_enter_27 (by decide) ?_
        refine zo_icmp_ne (i := i_Mo_enter) (pc := 28) (tgt := 40) d_Mo_enter_28 (by decide) (fun h28 => ?_) (fun h28 => False.elim (by first | exact absurd h28 ((by rw [nI_clamp (show c < 2 ^ 31 by omega), (hr.2.2.2.2.1 c hc).1]; exact fun hh => hfull ((nI_eq (b := 4) (by omega) (by decide)).mp hh))) | exact absurd ((by rw [nI_clamp (show c < 2 ^ 31 by omega), (hr.2.2.2.2.1 c hc).1]; exact fun hh => hfull ((nI_eq (b := 4) (by omega) (by decide)).mp hh))) h28))
        refine tail _ _ _ ⟨_, _, hr, hs⟩ (by omega) ?_
        rw [e1, hcp] at k
        have e2 : zcap 4 (ent q c) = ent q c := by unfold zcap; rw [if_neg (by omega)]
        rw [e2] at k
        exact k
