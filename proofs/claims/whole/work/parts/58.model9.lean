/-! The model: own addresses asked for (walks by a program, gen58.py). -/
theorem c_Mo_own {g : zG} {ws : va_W} {post : Option Value → va_W → Prop} {B : Nat → Nat} {m : Nat → Int32} {F : Nat → Nat → Int32} {R : va_W} (hs : zHas ws (moW g B m F ++ R)) {n : Nat} {j : Int32} (hm : m 12 = nI n) (hn : n ≤ 6) (k0 : ∀ c : Nat, j = nI c → c < n → ∀ w, zHas w (moW g B (mup m 0 0) F ++ R) → post (some (.int (F 13 c + 65536 * F 14 c))) w) (k1 : ¬ (¬ j < 0 ∧ j < nI n) → ∀ w, zHas w (moW g B (mup m 0 1) F ++ R) → post (some (.int 0)) w) : zC g i_Mo_own [.ref (B 0), .int j] ws post := by
  refine zC.intro (by decide +kernel) rfl (Nat.le_of_ble_eq_true rfl) fun x0 hq => ?_
  by_cases hv : ¬ j < 0 ∧ j < nI n
  · obtain ⟨c, rfl, hc1, hc2⟩ := nI_ex hv.1
    have hlt : c < n := nI_ltN hc1 (by omega) hv.2
    refine zo_aload_n (i := i_Mo_own) (pc := 0) d_Mo_own_0 rfl rfl ?_
    refine zo_aload_n (i := i_Mo_own) (pc := 1) d_Mo_own_1 rfl rfl ?_
    refine zo_iload_n (i := i_Mo_own) (pc := 2) d_Mo_own_2 rfl ?_
    refine zc_V1 (i := i_Mo_own) (pc := 3) 10 rfl m_Mo_noOwn (ztb_of k_1121 rfl) (ztb_of k_1123 rfl) s_Mo_noOwn d_Mo_own_3 (Nat.le_of_ble_eq_true rfl) (Nat.le_of_ble_eq_true rfl) (Nat.le_of_ble_eq_true rfl) (Nat.le_of_ble_eq_true rfl) (hs.get (t := 0) rfl) (c_Mo_noOwn hs ?_)
    refine zo_if_eq (i := i_Mo_own) (pc := 6) (tgt := 13) d_Mo_own_6 (by decide) (fun h6 => ?_) (fun h6 => False.elim (by first | exact absurd h6 ((by rw [hm]; simp [hv.1, hv.2, zb])) | exact absurd ((by rw [hm]; simp [hv.1, hv.2, zb])) h6))
    refine zo_iconst (i := i_Mo_own) (pc := 13) (v := 0) d_Mo_own_13 (by decide) ?_
    refine zh_put (i := i_Mo_own) (pc := 14) 10 0 rfl zok_Mo (Nat.le_of_ble_eq_true rfl) (ztb_of k_858 rfl) rfl d_Mo_own_14 (fun _ _ _ h => h) (t_Mo_ok 0 (Nat.le_of_ble_eq_true rfl)) rfl rfl hs 0 rfl (Nat.le_of_ble_eq_true rfl) fun ws hs => ?_
    refine zo_aload_n (i := i_Mo_own) (pc := 17) d_Mo_own_17 rfl rfl ?_
    refine zo_get (i := i_Mo_own) (pc := 18) 10 0 rfl zok_Mo (Nat.le_of_ble_eq_true rfl) (ztb_of k_858 rfl) d_Mo_own_18 (fun _ _ _ h => h) (hs.get (t := 0) rfl) rfl ?_
    refine zo_if_eq (i := i_Mo_own) (pc := 21) (tgt := 28) d_Mo_own_21 (by decide) (fun h21 => ?_) (fun h21 => False.elim (by first | exact absurd h21 (rfl) | exact absurd (rfl) h21))
    refine zo_aload_n (i := i_Mo_own) (pc := 28) d_Mo_own_28 rfl rfl ?_
    refine zo_get (i := i_Mo_own) (pc := 29) 10 13 rfl zok_Mo (Nat.le_of_ble_eq_true rfl) (ztb_of k_871 rfl) d_Mo_own_29 (fun _ _ _ h => h) (hs.get (t := 0) rfl) rfl ?_
    refine zo_iload_n (i := i_Mo_own) (pc := 32) d_Mo_own_32 rfl ?_
    refine zo_iaload (i := i_Mo_own) (pc := 33) d_Mo_own_33 (hs.get (t := 4) rfl) (vp_in_nI (by omega) (by decide)) ?_
    refine zo_ldc (i := i_Mo_own) (pc := 34) d_Mo_own_34 (ztb_of k_1060 rfl) ?_
    refine zo_aload_n (i := i_Mo_own) (pc := 36) d_Mo_own_36 rfl rfl ?_
    refine zo_get (i := i_Mo_own) (pc := 37) 10 14 rfl zok_Mo (Nat.le_of_ble_eq_true rfl) (ztb_of k_872 rfl) d_Mo_own_37 (fun _ _ _ h => h) (hs.get (t := 0) rfl) rfl ?_
    refine zo_iload_n (i := i_Mo_own) (pc := 40) d_Mo_own_40 rfl ?_
    refine zo_iaload (i := i_Mo_own) (pc := 41) d_Mo_own_41 (hs.get (t := 5) rfl) (vp_in_nI (by omega) (by decide)) ?_
    refine zo_imul (i := i_Mo_own) (pc := 42) d_Mo_own_42 ?_
    refine zo_iadd (i := i_Mo_own) (pc := 43) d_Mo_own_43 ?_
    refine zo_ireturn (i := i_Mo_own) (pc := 44) hq d_Mo_own_44 rfl (Nat.le_of_ble_eq_true rfl) (Nat.le_of_ble_eq_true rfl) ?_
    rw [nI_clamp (show c < 2 ^ 31 by omega)]
    exact k0 c rfl hlt ws hs
  · refine zo_aload_n (i := i_Mo_own) (pc := 0) d_Mo_own_0 rfl rfl ?_
    refine zo_aload_n (i := i_Mo_own) (pc := 1) d_Mo_own_1 rfl rfl ?_
    refine zo_iload_n (i := i_Mo_own) (pc := 2) d_Mo_own_2 rfl ?_
    refine zc_V1 (i := i_Mo_own) (pc := 3) 10 rfl m_Mo_noOwn (ztb_of k_1121 rfl) (ztb_of k_1123 rfl) s_Mo_noOwn d_Mo_own_3 (Nat.le_of_ble_eq_true rfl) (Nat.le_of_ble_eq_true rfl) (Nat.le_of_ble_eq_true rfl) (Nat.le_of_ble_eq_true rfl) (hs.get (t := 0) rfl) (c_Mo_noOwn hs ?_)
    refine zo_if_eq (i := i_Mo_own) (pc := 6) (tgt := 13) d_Mo_own_6 (by decide) (fun h6 => False.elim (by first | exact absurd h6 ((by rw [hm]; intro e; apply hv; simpa [zb_0] using e)) | exact absurd ((by rw [hm]; intro e; apply hv; simpa [zb_0] using e)) h6)) (fun h6 => ?_)
    refine zo_iconst (i := i_Mo_own) (pc := 9) (v := 1) d_Mo_own_9 (by decide) ?_
    refine zo_goto (i := i_Mo_own) (pc := 10) (tgt := 14) d_Mo_own_10 (by decide) ?_
    refine zh_put (i := i_Mo_own) (pc := 14) 10 0 rfl zok_Mo (Nat.le_of_ble_eq_true rfl) (ztb_of k_858 rfl) rfl d_Mo_own_14 (fun _ _ _ h => h) (t_Mo_ok 0 (Nat.le_of_ble_eq_true rfl)) rfl rfl hs 0 rfl (Nat.le_of_ble_eq_true rfl) fun ws hs => ?_
    refine zo_aload_n (i := i_Mo_own) (pc := 17) d_Mo_own_17 rfl rfl ?_
    refine zo_get (i := i_Mo_own) (pc := 18) 10 0 rfl zok_Mo (Nat.le_of_ble_eq_true rfl) (ztb_of k_858 rfl) d_Mo_own_18 (fun _ _ _ h => h) (hs.get (t := 0) rfl) rfl ?_
    refine zo_if_eq (i := i_Mo_own) (pc := 21) (tgt := 28) d_Mo_own_21 (by decide) (fun h21 => False.elim (by first | exact absurd h21 ((by decide)) | exact absurd ((by decide)) h21)) (fun h21 => ?_)
    refine zo_iconst (i := i_Mo_own) (pc := 24) (v := 0) d_Mo_own_24 (by decide) ?_
    refine zo_goto (i := i_Mo_own) (pc := 25) (tgt := 44) d_Mo_own_25 (by decide) ?_
    refine zo_ireturn (i := i_Mo_own) (pc := 44) hq d_Mo_own_44 rfl (Nat.le_of_ble_eq_true rfl) (Nat.le_of_ble_eq_true rfl) ?_
    exact k1 hv ws hs
theorem c_Mo_until {g : zG} {ws : va_W} {post : Option Value → va_W → Prop} {B : Nat → Nat} {m : Nat → Int32} {F : Nat → Nat → Int32} {R : va_W} (hs : zHas ws (moW g B m F ++ R)) {n : Nat} {j : Int32} (hm : m 12 = nI n) (hn : n ≤ 6) (k0 : ∀ c : Nat, j = nI c → c < n → ∀ w, zHas w (moW g B (mup m 0 0) F ++ R) → post (some (.int (if F 17 c = 2000000000 then -1 else F 17 c))) w) (k1 : ¬ (¬ j < 0 ∧ j < nI n) → ∀ w, zHas w (moW g B (mup m 0 1) F ++ R) → post (some (.int 0)) w) : zC g i_Mo_until [.ref (B 0), .int j] ws post := by
  refine zC.intro (by decide +kernel) rfl (Nat.le_of_ble_eq_true rfl) fun x0 hq => ?_
  by_cases hv : ¬ j < 0 ∧ j < nI n
  · obtain ⟨c, rfl, hc1, hc2⟩ := nI_ex hv.1
    have hlt : c < n := nI_ltN hc1 (by omega) hv.2
    refine zo_aload_n (i := i_Mo_until) (pc := 0) d_Mo_until_0 rfl rfl ?_
    refine zo_aload_n (i := i_Mo_until) (pc := 1) d_Mo_until_1 rfl rfl ?_
    refine zo_iload_n (i := i_Mo_until) (pc := 2) d_Mo_until_2 rfl ?_
    refine zc_V1 (i := i_Mo_until) (pc := 3) 10 rfl m_Mo_noOwn (ztb_of k_1121 rfl) (ztb_of k_1123 rfl) s_Mo_noOwn d_Mo_until_3 (Nat.le_of_ble_eq_true rfl) (Nat.le_of_ble_eq_true rfl) (Nat.le_of_ble_eq_true rfl) (Nat.le_of_ble_eq_true rfl) (hs.get (t := 0) rfl) (c_Mo_noOwn hs ?_)
    refine zo_if_eq (i := i_Mo_until) (pc := 6) (tgt := 13) d_Mo_until_6 (by decide) (fun h6 => ?_) (fun h6 => False.elim (by first | exact absurd h6 ((by rw [hm]; simp [hv.1, hv.2, zb])) | exact absurd ((by rw [hm]; simp [hv.1, hv.2, zb])) h6))
    refine zo_iconst (i := i_Mo_until) (pc := 13) (v := 0) d_Mo_until_13 (by decide) ?_
    refine zh_put (i := i_Mo_until) (pc := 14) 10 0 rfl zok_Mo (Nat.le_of_ble_eq_true rfl) (ztb_of k_858 rfl) rfl d_Mo_until_14 (fun _ _ _ h => h) (t_Mo_ok 0 (Nat.le_of_ble_eq_true rfl)) rfl rfl hs 0 rfl (Nat.le_of_ble_eq_true rfl) fun ws hs => ?_
    refine zo_aload_n (i := i_Mo_until) (pc := 17) d_Mo_until_17 rfl rfl ?_
    refine zo_get (i := i_Mo_until) (pc := 18) 10 0 rfl zok_Mo (Nat.le_of_ble_eq_true rfl) (ztb_of k_858 rfl) d_Mo_until_18 (fun _ _ _ h => h) (hs.get (t := 0) rfl) rfl ?_
    refine zo_if_eq (i := i_Mo_until) (pc := 21) (tgt := 28) d_Mo_until_21 (by decide) (fun h21 => ?_) (fun h21 => False.elim (by first | exact absurd h21 (rfl) | exact absurd (rfl) h21))
    refine zo_aload_n (i := i_Mo_until) (pc := 28) d_Mo_until_28 rfl rfl ?_
    refine zo_get (i := i_Mo_until) (pc := 29) 10 17 rfl zok_Mo (Nat.le_of_ble_eq_true rfl) (ztb_of k_875 rfl) d_Mo_until_29 (fun _ _ _ h => h) (hs.get (t := 0) rfl) rfl ?_
    refine zo_iload_n (i := i_Mo_until) (pc := 32) d_Mo_until_32 rfl ?_
    refine zo_iaload (i := i_Mo_until) (pc := 33) d_Mo_until_33 (hs.get (t := 8) rfl) (vp_in_nI (by omega) (by decide)) ?_
    refine zo_ldc (i := i_Mo_until) (pc := 34) d_Mo_until_34 (ztb_of k_852 rfl) ?_
    refine zo_icmp_ne (i := i_Mo_until) (pc := 36) (tgt := 43) d_Mo_until_36 (by decide) (fun h36 => ?_) (fun h36 => ?_)
    · refine zo_aload_n (i := i_Mo_until) (pc := 43) d_Mo_until_43 rfl rfl ?_
      refine zo_get (i := i_Mo_until) (pc := 44) 10 17 rfl zok_Mo (Nat.le_of_ble_eq_true rfl) (ztb_of k_875 rfl) d_Mo_until_44 (fun _ _ _ h => h) (hs.get (t := 0) rfl) rfl ?_
      refine zo_iload_n (i := i_Mo_until) (pc := 47) d_Mo_until_47 rfl ?_
      refine zo_iaload (i := i_Mo_until) (pc := 48) d_Mo_until_48 (hs.get (t := 8) rfl) (vp_in_nI (by omega) (by decide)) ?_
      refine zo_ireturn (i := i_Mo_until) (pc := 49) hq d_Mo_until_49 rfl (Nat.le_of_ble_eq_true rfl) (Nat.le_of_ble_eq_true rfl) ?_
      rw [nI_clamp (show c < 2 ^ 31 by omega)] at h36
      have kk := k0 c rfl hlt ws hs
      rw [if_neg h36] at kk
      rw [nI_clamp (show c < 2 ^ 31 by omega)]
      exact kk
    · refine zo_iconst (i := i_Mo_until) (pc := 39) (v := (-1)) d_Mo_until_39 (by decide) ?_
      refine zo_goto (i := i_Mo_until) (pc := 40) (tgt := 49) d_Mo_until_40 (by decide) ?_
      refine zo_ireturn (i := i_Mo_until) (pc := 49) hq d_Mo_until_49 rfl (Nat.le_of_ble_eq_true rfl) (Nat.le_of_ble_eq_true rfl) ?_
      rw [nI_clamp (show c < 2 ^ 31 by omega)] at h36
      have kk := k0 c rfl hlt ws hs
      rw [if_pos h36] at kk
      exact kk
  · refine zo_aload_n (i := i_Mo_until) (pc := 0) d_Mo_until_0 rfl rfl ?_
    refine zo_aload_n (i := i_Mo_until) (pc := 1) d_Mo_until_1 rfl rfl ?_
    refine zo_iload_n (i := i_Mo_until) (pc := 2) d_Mo_until_2 rfl ?_
    refine zc_V1 (i := i_Mo_until) (pc := 3) 10 rfl m_Mo_noOwn (ztb_of k_1121 rfl) (ztb_of k_1123 rfl) s_Mo_noOwn d_Mo_until_3 (Nat.le_of_ble_eq_true rfl) (Nat.le_of_ble_eq_true rfl) (Nat.le_of_ble_eq_true rfl) (Nat.le_of_ble_eq_true rfl) (hs.get (t := 0) rfl) (c_Mo_noOwn hs ?_)
    refine zo_if_eq (i := i_Mo_until) (pc := 6) (tgt := 13) d_Mo_until_6 (by decide) (fun h6 => False.elim (by first | exact absurd h6 ((by rw [hm]; intro e; apply hv; simpa [zb_0] using e)) | exact absurd ((by rw [hm]; intro e; apply hv; simpa [zb_0] using e)) h6)) (fun h6 => ?_)
    refine zo_iconst (i := i_Mo_until) (pc := 9) (v := 1) d_Mo_until_9 (by decide) ?_
    refine zo_goto (i := i_Mo_until) (pc := 10) (tgt := 14) d_Mo_until_10 (by decide) ?_
    refine zh_put (i := i_Mo_until) (pc := 14) 10 0 rfl zok_Mo (Nat.le_of_ble_eq_true rfl) (ztb_of k_858 rfl) rfl d_Mo_until_14 (fun _ _ _ h => h) (t_Mo_ok 0 (Nat.le_of_ble_eq_true rfl)) rfl rfl hs 0 rfl (Nat.le_of_ble_eq_true rfl) fun ws hs => ?_
    refine zo_aload_n (i := i_Mo_until) (pc := 17) d_Mo_until_17 rfl rfl ?_
    refine zo_get (i := i_Mo_until) (pc := 18) 10 0 rfl zok_Mo (Nat.le_of_ble_eq_true rfl) (ztb_of k_858 rfl) d_Mo_until_18 (fun _ _ _ h => h) (hs.get (t := 0) rfl) rfl ?_
    refine zo_if_eq (i := i_Mo_until) (pc := 21) (tgt := 28) d_Mo_until_21 (by decide) (fun h21 => False.elim (by first | exact absurd h21 ((by decide)) | exact absurd ((by decide)) h21)) (fun h21 => ?_)
    refine zo_iconst (i := i_Mo_until) (pc := 24) (v := 0) d_Mo_until_24 (by decide) ?_
    refine zo_goto (i := i_Mo_until) (pc := 25) (tgt := 49) d_Mo_until_25 (by decide) ?_
    refine zo_ireturn (i := i_Mo_until) (pc := 49) hq d_Mo_until_49 rfl (Nat.le_of_ble_eq_true rfl) (Nat.le_of_ble_eq_true rfl) ?_
    exact k1 hv ws hs
