/-! The model: an address is formed, an entry is kept (walks by a program, gen55.py). -/
theorem c_Mo_form {g : zG} {ws : va_W} {post : Option Value → va_W → Prop} {B : Nat → Nat} {m : Nat → Int32} {F : Nat → Nat → Int32} {R : va_W} (hs : zHas ws (moW g B m F ++ R)) {n s : Nat} {p v r : Int32} (hm : m 12 = nI n) (hn : n < 6) (hm8 : m 8 = nI s) (h8 : s < 2147483648) (k : ∀ w, zHas w (moW g B (mup (mup m 12 (nI (n + 1))) 8 (nI (s + 1))) (mup (mup (mup (mup (mup (mup (mup (mup F 13 (upd (F 13) n (256 * p + m 1))) 14 (upd (F 14) n 1)) 15 (upd (F 15) n (m 2))) 16 (upd (F 16) n (if r = 1000 then 2000000000 else m 2 + r))) 17 (upd (F 17) n (if v = 1000 then 2000000000 else m 2 + v))) 9 (upd (F 9) (s % 12) 1)) 10 (upd (F 10) (s % 12) 65535)) 11 (upd (F 11) (s % 12) (256 * p + m 1))) ++ R) → post none w) : zC g i_Mo_form [.ref (B 0), .int p, .int v, .int r] ws post := by
  refine zC.intro (by decide +kernel) rfl (Nat.le_of_ble_eq_true rfl) fun x0 hq => ?_
  refine zo_aload_n (i := i_Mo_form) (pc := 0) d_Mo_form_0 rfl rfl ?_
  refine zo_get (i := i_Mo_form) (pc := 1) 10 13 rfl zok_Mo (Nat.le_of_ble_eq_true rfl) (ztb_of k_871 rfl) d_Mo_form_1 (fun _ _ _ h => h) (hs.get (t := 0) rfl) rfl ?_
  refine zo_aload_n (i := i_Mo_form) (pc := 4) d_Mo_form_4 rfl rfl ?_
  refine zo_get (i := i_Mo_form) (pc := 5) 10 12 rfl zok_Mo (Nat.le_of_ble_eq_true rfl) (ztb_of k_870 rfl) d_Mo_form_5 (fun _ _ _ h => h) (hs.get (t := 0) rfl) rfl ?_
  refine zo_sipush (i := i_Mo_form) (pc := 8) (v := 256) d_Mo_form_8 (by decide) ?_
  refine zo_iload_n (i := i_Mo_form) (pc := 11) d_Mo_form_11 rfl ?_
  refine zo_imul (i := i_Mo_form) (pc := 12) d_Mo_form_12 ?_
  refine zo_aload_n (i := i_Mo_form) (pc := 13) d_Mo_form_13 rfl rfl ?_
  refine zo_get (i := i_Mo_form) (pc := 14) 10 1 rfl zok_Mo (Nat.le_of_ble_eq_true rfl) (ztb_of k_859 rfl) d_Mo_form_14 (fun _ _ _ h => h) (hs.get (t := 0) rfl) rfl ?_
  refine zo_iadd (i := i_Mo_form) (pc := 17) d_Mo_form_17 ?_
  refine zh_iastore (i := i_Mo_form) (pc := 18) d_Mo_form_18 hs 4 rfl (by rw [hm]; exact vp_in_nI (by omega) (by decide)) fun ws hs => ?_
  refine zo_aload_n (i := i_Mo_form) (pc := 19) d_Mo_form_19 rfl rfl ?_
  refine zo_get (i := i_Mo_form) (pc := 20) 10 14 rfl zok_Mo (Nat.le_of_ble_eq_true rfl) (ztb_of k_872 rfl) d_Mo_form_20 (fun _ _ _ h => h) (hs.get (t := 0) rfl) rfl ?_
  refine zo_aload_n (i := i_Mo_form) (pc := 23) d_Mo_form_23 rfl rfl ?_
  refine zo_get (i := i_Mo_form) (pc := 24) 10 12 rfl zok_Mo (Nat.le_of_ble_eq_true rfl) (ztb_of k_870 rfl) d_Mo_form_24 (fun _ _ _ h => h) (hs.get (t := 0) rfl) rfl ?_
  refine zo_iconst (i := i_Mo_form) (pc := 27) (v := 1) d_Mo_form_27 (by decide) ?_
  refine zh_iastore (i := i_Mo_form) (pc := 28) d_Mo_form_28 hs 5 rfl (by rw [hm]; exact vp_in_nI (by omega) (by decide)) fun ws hs => ?_
  refine zo_aload_n (i := i_Mo_form) (pc := 29) d_Mo_form_29 rfl rfl ?_
  refine zo_get (i := i_Mo_form) (pc := 30) 10 15 rfl zok_Mo (Nat.le_of_ble_eq_true rfl) (ztb_of k_873 rfl) d_Mo_form_30 (fun _ _ _ h => h) (hs.get (t := 0) rfl) rfl ?_
  refine zo_aload_n (i := i_Mo_form) (pc := 33) d_Mo_form_33 rfl rfl ?_
  refine zo_get (i := i_Mo_form) (pc := 34) 10 12 rfl zok_Mo (Nat.le_of_ble_eq_true rfl) (ztb_of k_870 rfl) d_Mo_form_34 (fun _ _ _ h => h) (hs.get (t := 0) rfl) rfl ?_
  refine zo_aload_n (i := i_Mo_form) (pc := 37) d_Mo_form_37 rfl rfl ?_
  refine zo_get (i := i_Mo_form) (pc := 38) 10 2 rfl zok_Mo (Nat.le_of_ble_eq_true rfl) (ztb_of k_860 rfl) d_Mo_form_38 (fun _ _ _ h => h) (hs.get (t := 0) rfl) rfl ?_
  refine zh_iastore (i := i_Mo_form) (pc := 41) d_Mo_form_41 hs 6 rfl (by rw [hm]; exact vp_in_nI (by omega) (by decide)) fun ws hs => ?_
  refine zo_aload_n (i := i_Mo_form) (pc := 42) d_Mo_form_42 rfl rfl ?_
  refine zo_get (i := i_Mo_form) (pc := 43) 10 16 rfl zok_Mo (Nat.le_of_ble_eq_true rfl) (ztb_of k_874 rfl) d_Mo_form_43 (fun _ _ _ h => h) (hs.get (t := 0) rfl) rfl ?_
  refine zo_aload_n (i := i_Mo_form) (pc := 46) d_Mo_form_46 rfl rfl ?_
  refine zo_get (i := i_Mo_form) (pc := 47) 10 12 rfl zok_Mo (Nat.le_of_ble_eq_true rfl) (ztb_of k_870 rfl) d_Mo_form_47 (fun _ _ _ h => h) (hs.get (t := 0) rfl) rfl ?_
  refine zo_aload_n (i := i_Mo_form) (pc := 50) d_Mo_form_50 rfl rfl ?_
  refine zo_iload_n (i := i_Mo_form) (pc := 51) d_Mo_form_51 rfl ?_
  replace hs : zHas ws (moW g B m (mup (mup (mup F 13 (upd (F 13) (m 12).toNatClampNeg (256 * p + m 1))) 14 (upd (F 14) (m 12).toNatClampNeg 1)) 15 (upd (F 15) (m 12).toNatClampNeg (m 2))) ++ R) := hs
  refine zc_V1 (i := i_Mo_form) (pc := 52) 10 rfl m_Mo_end (ztb_of k_848 rfl) (ztb_of k_850 rfl) s_Mo_end d_Mo_form_52 (Nat.le_of_ble_eq_true rfl) (Nat.le_of_ble_eq_true rfl) (Nat.le_of_ble_eq_true rfl) (Nat.le_of_ble_eq_true rfl) (hs.get (t := 0) rfl) (c_Mo_end hs ?_)
  refine zh_iastore (i := i_Mo_form) (pc := 55) d_Mo_form_55 hs 7 rfl (by rw [hm]; exact vp_in_nI (by omega) (by decide)) fun ws hs => ?_
  refine zo_aload_n (i := i_Mo_form) (pc := 56) d_Mo_form_56 rfl rfl ?_
  refine zo_get (i := i_Mo_form) (pc := 57) 10 17 rfl zok_Mo (Nat.le_of_ble_eq_true rfl) (ztb_of k_875 rfl) d_Mo_form_57 (fun _ _ _ h => h) (hs.get (t := 0) rfl) rfl ?_
  refine zo_aload_n (i := i_Mo_form) (pc := 60) d_Mo_form_60 rfl rfl ?_
  refine zo_get (i := i_Mo_form) (pc := 61) 10 12 rfl zok_Mo (Nat.le_of_ble_eq_true rfl) (ztb_of k_870 rfl) d_Mo_form_61 (fun _ _ _ h => h) (hs.get (t := 0) rfl) rfl ?_
  refine zo_aload_n (i := i_Mo_form) (pc := 64) d_Mo_form_64 rfl rfl ?_
  refine zo_iload_n (i := i_Mo_form) (pc := 65) d_Mo_form_65 rfl ?_
  replace hs : zHas ws (moW g B m (mup (mup (mup (mup F 13 (upd (F 13) (m 12).toNatClampNeg (256 * p + m 1))) 14 (upd (F 14) (m 12).toNatClampNeg 1)) 15 (upd (F 15) (m 12).toNatClampNeg (m 2))) 16 (upd (F 16) (m 12).toNatClampNeg (if r = 1000 then 2000000000 else m 2 + r))) ++ R) := hs
  refine zc_V1 (i := i_Mo_form) (pc := 66) 10 rfl m_Mo_end (ztb_of k_848 rfl) (ztb_of k_850 rfl) s_Mo_end d_Mo_form_66 (Nat.le_of_ble_eq_true rfl) (Nat.le_of_ble_eq_true rfl) (Nat.le_of_ble_eq_true rfl) (Nat.le_of_ble_eq_true rfl) (hs.get (t := 0) rfl) (c_Mo_end hs ?_)
  refine zh_iastore (i := i_Mo_form) (pc := 69) d_Mo_form_69 hs 8 rfl (by rw [hm]; exact vp_in_nI (by omega) (by decide)) fun ws hs => ?_
  refine zo_aload_n (i := i_Mo_form) (pc := 70) d_Mo_form_70 rfl rfl ?_
  refine zo_dup (i := i_Mo_form) (pc := 71) d_Mo_form_71 rfl ?_
  refine zo_get (i := i_Mo_form) (pc := 72) 10 12 rfl zok_Mo (Nat.le_of_ble_eq_true rfl) (ztb_of k_870 rfl) d_Mo_form_72 (fun _ _ _ h => h) (hs.get (t := 0) rfl) rfl ?_
  refine zo_iconst (i := i_Mo_form) (pc := 75) (v := 1) d_Mo_form_75 (by decide) ?_
  refine zo_iadd (i := i_Mo_form) (pc := 76) d_Mo_form_76 ?_
  refine zh_put (i := i_Mo_form) (pc := 77) 10 12 rfl zok_Mo (Nat.le_of_ble_eq_true rfl) (ztb_of k_870 rfl) rfl d_Mo_form_77 (fun _ _ _ h => h) (t_Mo_ok 12 (Nat.le_of_ble_eq_true rfl)) rfl rfl hs 0 rfl (Nat.le_of_ble_eq_true rfl) fun ws hs => ?_
  refine zo_aload_n (i := i_Mo_form) (pc := 80) d_Mo_form_80 rfl rfl ?_
  refine zo_iconst (i := i_Mo_form) (pc := 81) (v := 1) d_Mo_form_81 (by decide) ?_
  refine zo_ldc (i := i_Mo_form) (pc := 82) d_Mo_form_82 (ztb_of k_853 rfl) ?_
  refine zo_sipush (i := i_Mo_form) (pc := 84) (v := 256) d_Mo_form_84 (by decide) ?_
  refine zo_iload_n (i := i_Mo_form) (pc := 87) d_Mo_form_87 rfl ?_
  refine zo_imul (i := i_Mo_form) (pc := 88) d_Mo_form_88 ?_
  refine zo_aload_n (i := i_Mo_form) (pc := 89) d_Mo_form_89 rfl rfl ?_
  refine zo_get (i := i_Mo_form) (pc := 90) 10 1 rfl zok_Mo (Nat.le_of_ble_eq_true rfl) (ztb_of k_859 rfl) d_Mo_form_90 (fun _ _ _ h => h) (hs.get (t := 0) rfl) rfl ?_
  refine zo_iadd (i := i_Mo_form) (pc := 93) d_Mo_form_93 ?_
  replace hs : zHas ws (moW g B (mup m 12 (m 12 + 1)) (mup (mup (mup (mup (mup F 13 (upd (F 13) (m 12).toNatClampNeg (256 * p + m 1))) 14 (upd (F 14) (m 12).toNatClampNeg 1)) 15 (upd (F 15) (m 12).toNatClampNeg (m 2))) 16 (upd (F 16) (m 12).toNatClampNeg (if r = 1000 then 2000000000 else m 2 + r))) 17 (upd (F 17) (m 12).toNatClampNeg (if v = 1000 then 2000000000 else m 2 + v))) ++ R) := hs
  refine zc_V3 (i := i_Mo_form) (pc := 94) 10 rfl m_Mo_out (ztb_of k_854 rfl) (ztb_of k_856 rfl) s_Mo_out d_Mo_form_94 (Nat.le_of_ble_eq_true rfl) (Nat.le_of_ble_eq_true rfl) (Nat.le_of_ble_eq_true rfl) (Nat.le_of_ble_eq_true rfl) (hs.get (t := 0) rfl) (c_Mo_out (s := s) hs hm8 h8 fun ws hs => ?_)
  refine zo_return (i := i_Mo_form) (pc := 97) hq d_Mo_form_97 rfl (Nat.le_of_ble_eq_true rfl) (Nat.le_of_ble_eq_true rfl) ?_
  replace hs : zHas ws (moW g B (mup (mup m 12 (m 12 + 1)) 8 (nI (s + 1))) (mup (mup (mup (mup (mup (mup (mup (mup F 13 (upd (F 13) (m 12).toNatClampNeg (256 * p + m 1))) 14 (upd (F 14) (m 12).toNatClampNeg 1)) 15 (upd (F 15) (m 12).toNatClampNeg (m 2))) 16 (upd (F 16) (m 12).toNatClampNeg (if r = 1000 then 2000000000 else m 2 + r))) 17 (upd (F 17) (m 12).toNatClampNeg (if v = 1000 then 2000000000 else m 2 + v))) 9 (upd (F 9) (s % 12) 1)) 10 (upd (F 10) (s % 12) 65535)) 11 (upd (F 11) (s % 12) (256 * p + m 1))) ++ R) := hs
  simp only [hm, nI_clamp (show n < 2 ^ 31 by omega), nI_1] at hs
  exact k ws hs
