/-! The model by states: router (walks by a program, gen75.py). -/
theorem zb_ne {b : Bool} (h : ¬ zb b = 0) : b = true := by
  cases b
  · exact absurd rfl h
  · rfl
theorem zb_eq {b : Bool} (h : zb b = 0) : b = false := by
  cases b
  · rfl
  · exact absurd h (by decide)
theorem lnT_s (q : hT) (a n : Int32) : (lnT q a n).1.2.1 = q.1.2.1 := by
  unfold lnT
  split
  · rfl
  · split <;> rfl
theorem l_router {g : zG} {ws : va_W} {post : Option Value → va_W → Prop} {B : Nat → Nat} {q : hT} {t : Int32} {R : va_W} (h : mS g B q t R ws) {a n l z : Int32} {T U : Nat} (hi : hI q T U) (hU : U + 1 < 2000000000) (k0 : (zwithin a 1 254 = true ∧ zwithin n 1 99 = true ∧ zwithin l 0 1000 = true ∧ zwithin z 0 99 = true) → q.1.2.2.2.2.2.2 = false → ∀ w, mS g B (routerT q a n l z) 0 R w → post none w) (k1 : ¬ (zwithin a 1 254 = true ∧ zwithin n 1 99 = true ∧ zwithin l 0 1000 = true ∧ zwithin z 0 99 = true) → ∀ w, mS g B q 1 R w → post none w) (k2 : (zwithin a 1 254 = true ∧ zwithin n 1 99 = true ∧ zwithin l 0 1000 = true ∧ zwithin z 0 99 = true) → q.1.2.2.2.2.2.2 = true → ∀ w, mS g B q 2 R w → post none w) : zC g i_Mo_router [.ref (B 0), .int a, .int n, .int l, .int z] ws post := by
  refine zC.intro (by decide +kernel) rfl (Nat.le_of_ble_eq_true rfl) fun x0 hq => ?_
  obtain ⟨m, F, hr, hs⟩ := h
  by_cases hg : zwithin a 1 254 = true ∧ zwithin n 1 99 = true ∧ zwithin l 0 1000 = true ∧ zwithin z 0 99 = true
  · cases hdn : q.1.2.2.2.2.2.2
    · refine zo_iload_n (i := i_Mo_router) (pc := 0) d_Mo_router_0 rfl ?_
      refine zo_iconst (i := i_Mo_router) (pc := 1) (v := 1) d_Mo_router_1 (by decide) ?_
      refine zo_icmp_lt (i := i_Mo_router) (pc := 2) (tgt := 43) d_Mo_router_2 (by decide) (fun h2 => False.elim (by first | exact absurd h2 ((zw_iff.mp hg.1).1) | exact absurd ((zw_iff.mp hg.1).1) h2)) (fun h2 => ?_)
      refine zo_iload_n (i := i_Mo_router) (pc := 5) d_Mo_router_5 rfl ?_
      refine zo_sipush (i := i_Mo_router) (pc := 6) (v := 254) d_Mo_router_6 (by decide) ?_
      refine zo_icmp_gt (i := i_Mo_router) (pc := 9) (tgt := 43) d_Mo_router_9 (by decide) (fun h9 => False.elim (by first | exact absurd h9 ((zw_iff.mp hg.1).2) | exact absurd ((zw_iff.mp hg.1).2) h9)) (fun h9 => ?_)
      refine zo_aload_n (i := i_Mo_router) (pc := 12) d_Mo_router_12 rfl rfl ?_
      refine zo_iload_n (i := i_Mo_router) (pc := 13) d_Mo_router_13 rfl ?_
      refine zc_V1 (i := i_Mo_router) (pc := 14) 10 rfl m_Mo_isNumber (ztb_of k_1004 rfl) (ztb_of k_1006 rfl) s_Mo_isNumber d_Mo_router_14 (Nat.le_of_ble_eq_true rfl) (Nat.le_of_ble_eq_true rfl) (Nat.le_of_ble_eq_true rfl) (Nat.le_of_ble_eq_true rfl) (hs.get (t := 0) rfl) (c_Mo_isNumber ?_)
      refine zo_if_eq (i := i_Mo_router) (pc := 17) (tgt := 43) d_Mo_router_17 (by decide) (fun h17 => False.elim (by first | exact absurd h17 ((by rw [hg.2.1]; decide)) | exact absurd ((by rw [hg.2.1]; decide)) h17)) (fun h17 => ?_)
      refine zo_iload_n (i := i_Mo_router) (pc := 20) d_Mo_router_20 rfl ?_
      refine zo_if_lt (i := i_Mo_router) (pc := 21) (tgt := 43) d_Mo_router_21 (by decide) (fun h21 => False.elim (by first | exact absurd h21 ((zw_iff.mp hg.2.2.1).1) | exact absurd ((zw_iff.mp hg.2.2.1).1) h21)) (fun h21 => ?_)
      refine zo_iload_n (i := i_Mo_router) (pc := 24) d_Mo_router_24 rfl ?_
      refine zo_sipush (i := i_Mo_router) (pc := 25) (v := 1000) d_Mo_router_25 (by decide) ?_
      refine zo_icmp_gt (i := i_Mo_router) (pc := 28) (tgt := 43) d_Mo_router_28 (by decide) (fun h28 => False.elim (by first | exact absurd h28 ((zw_iff.mp hg.2.2.1).2) | exact absurd ((zw_iff.mp hg.2.2.1).2) h28)) (fun h28 => ?_)
      refine zo_iload (i := i_Mo_router) (pc := 31) d_Mo_router_31 rfl ?_
      refine zo_if_lt (i := i_Mo_router) (pc := 33) (tgt := 43) d_Mo_router_33 (by decide) (fun h33 => False.elim (by first | exact absurd h33 ((zw_iff.mp hg.2.2.2).1) | exact absurd ((zw_iff.mp hg.2.2.2).1) h33)) (fun h33 => ?_)
      refine zo_iload (i := i_Mo_router) (pc := 36) d_Mo_router_36 rfl ?_
      refine zo_bipush (i := i_Mo_router) (pc := 38) (v := 99) d_Mo_router_38 (by decide) ?_
      refine zo_icmp_le (i := i_Mo_router) (pc := 40) (tgt := 47) d_Mo_router_40 (by decide) (fun h40 => ?_) (fun h40 => False.elim (by first | exact absurd h40 ((Int32.not_lt.mp (zw_iff.mp hg.2.2.2).2)) | exact absurd ((Int32.not_lt.mp (zw_iff.mp hg.2.2.2).2)) h40))
      refine zo_iconst (i := i_Mo_router) (pc := 47) (v := 0) d_Mo_router_47 (by decide) ?_
      refine zo_istore (i := i_Mo_router) (pc := 48) d_Mo_router_48 (Nat.le_of_ble_eq_true rfl) ?_
      refine zo_aload_n (i := i_Mo_router) (pc := 50) d_Mo_router_50 rfl rfl ?_
      refine zo_iload (i := i_Mo_router) (pc := 51) d_Mo_router_51 rfl ?_
      refine zo_if_eq (i := i_Mo_router) (pc := 53) (tgt := 60) d_Mo_router_53 (by decide) (fun h53 => ?_) (fun h53 => False.elim (by first | exact absurd h53 (rfl) | exact absurd (rfl) h53))
      refine zo_aload_n (i := i_Mo_router) (pc := 60) d_Mo_router_60 rfl rfl ?_
      refine zo_get (i := i_Mo_router) (pc := 61) 10 3 rfl zok_Mo (Nat.le_of_ble_eq_true rfl) (ztb_of k_861 rfl) d_Mo_router_61 (fun _ _ _ h => h) (hs.get (t := 0) rfl) rfl ?_
      refine zo_if_eq (i := i_Mo_router) (pc := 64) (tgt := 71) d_Mo_router_64 (by decide) (fun h64 => ?_) (fun h64 => False.elim (by first | exact absurd h64 ((by rw [hr.1.2.2.2.1, hdn]; rfl)) | exact absurd ((by rw [hr.1.2.2.2.1, hdn]; rfl)) h64))
      refine zo_iconst (i := i_Mo_router) (pc := 71) (v := 0) d_Mo_router_71 (by decide) ?_
      refine zh_put (i := i_Mo_router) (pc := 72) 10 0 rfl zok_Mo (Nat.le_of_ble_eq_true rfl) (ztb_of k_858 rfl) rfl d_Mo_router_72 (fun _ _ _ h => h) (t_Mo_ok 0 (Nat.le_of_ble_eq_true rfl)) rfl rfl hs 0 rfl (Nat.le_of_ble_eq_true rfl) fun ws hs => ?_
      refine zo_aload_n (i := i_Mo_router) (pc := 75) d_Mo_router_75 rfl rfl ?_
      refine zo_get (i := i_Mo_router) (pc := 76) 10 0 rfl zok_Mo (Nat.le_of_ble_eq_true rfl) (ztb_of k_858 rfl) d_Mo_router_76 (fun _ _ _ h => h) (hs.get (t := 0) rfl) rfl ?_
      refine zo_if_eq (i := i_Mo_router) (pc := 79) (tgt := 83) d_Mo_router_79 (by decide) (fun h79 => ?_) (fun h79 => False.elim (by first | exact absurd h79 (rfl) | exact absurd (rfl) h79))
      obtain ⟨m, F, hr, hs⟩ : mS g B q 0 R ws := ⟨_, _, hr.thrown, hs⟩
      obtain ⟨cc, a1, a2, a3, a4, a5, a6, a7, a8, a9, ar⟩ := id hi
      have hnd : nd (lnT q (256 * 1 + a) n).2.2.2.2.1 := by
        obtain ⟨_, _, _, _, _, _, _, _, _, _, _, h11, _⟩ := hI_ln (a := 256 * 1 + a) (n := n) hi (by omega)
        exact h11
      have hn0 : n ≠ 0 := by
        intro h0
        rw [h0] at hg
        exact absurd hg.2.1 (by decide)
      have htime : (lnT q (256 * 1 + a) n).1.2.1 = q.1.2.1 := lnT_s q _ _
      refine zo_sipush (i := i_Mo_router) (pc := 83) (v := 256) d_Mo_router_83 (by decide) ?_
      refine zo_iload_n (i := i_Mo_router) (pc := 86) d_Mo_router_86 rfl ?_
      refine zo_iadd (i := i_Mo_router) (pc := 87) d_Mo_router_87 ?_
      rw [show (256 : Int32) + a = 256 * 1 + a from rfl]
      refine zo_istore (i := i_Mo_router) (pc := 88) d_Mo_router_88 (Nat.le_of_ble_eq_true rfl) ?_
      refine zo_aload_n (i := i_Mo_router) (pc := 90) d_Mo_router_90 rfl rfl ?_
      refine zo_iload (i := i_Mo_router) (pc := 91) d_Mo_router_91 rfl ?_
      refine zo_iload_n (i := i_Mo_router) (pc := 93) d_Mo_router_93 rfl ?_
      refine zc_V2 (i := i_Mo_router) (pc := 94) 10 rfl m_Mo_meet (ztb_of k_1008 rfl) (ztb_of k_1010 rfl) s_Mo_meet d_Mo_router_94 (Nat.le_of_ble_eq_true rfl) (Nat.le_of_ble_eq_true rfl) (Nat.le_of_ble_eq_true rfl) (Nat.le_of_ble_eq_true rfl) (hs.get (t := 0) rfl) (l_meet (c := cc) ⟨_, _, hr, hs⟩ hn0 a9 (by omega) fun i y ws hix hS => ?_)
      obtain ⟨m, F, hr, hs⟩ := hS
      have hil := len_of hix.1
      have hi6 := hr.2.2.2.1.2.1
      refine zo_istore (i := i_Mo_router) (pc := 97) d_Mo_router_97 (Nat.le_of_ble_eq_true rfl) ?_
      refine zo_aload_n (i := i_Mo_router) (pc := 99) d_Mo_router_99 rfl rfl ?_
      refine zo_get (i := i_Mo_router) (pc := 100) 10 21 rfl zok_Mo (Nat.le_of_ble_eq_true rfl) (ztb_of k_879 rfl) d_Mo_router_100 (fun _ _ _ h => h) (hs.get (t := 0) rfl) rfl ?_
      refine zo_iload (i := i_Mo_router) (pc := 103) d_Mo_router_103 rfl ?_
      refine zo_iconst (i := i_Mo_router) (pc := 105) (v := 1) d_Mo_router_105 (by decide) ?_
      refine zh_zastore (i := i_Mo_router) (pc := 106) d_Mo_router_106 hs 11 rfl (vp_in_nI (by omega) (by decide)) fun ws hs => ?_
      replace hs : zHas ws (moW g B m (mup F 21 (upd (F 21) (nI i).toNatClampNeg (vp_nar .boolean 1))) ++ R) := hs
      rw [nI_clamp (show i < 2 ^ 31 by omega)] at hs
      obtain ⟨m, F, hr, hs⟩ : mS g B (tN (lnT q (256 * 1 + a) n) ((lnT q (256 * 1 + a) n).2.2.2.1.set i (ndR y true))) 0 R ws := ⟨_, _, hr.routing (b := true) hix.1 rfl (vnar_zb true), hs⟩
      refine zo_iload_n (i := i_Mo_router) (pc := 107) d_Mo_router_107 rfl ?_
      refine zo_if_ne (i := i_Mo_router) (pc := 108) (tgt := 121) d_Mo_router_108 (by decide) (fun h108 => ?_) (fun h108 => ?_)
      · refine zo_aload_n (i := i_Mo_router) (pc := 121) d_Mo_router_121 rfl rfl ?_
        refine zo_iconst (i := i_Mo_router) (pc := 122) (v := 0) d_Mo_router_122 (by decide) ?_
        refine zo_iload (i := i_Mo_router) (pc := 123) d_Mo_router_123 rfl ?_
        refine zo_aload_n (i := i_Mo_router) (pc := 125) d_Mo_router_125 rfl rfl ?_
        refine zo_iload_n (i := i_Mo_router) (pc := 126) d_Mo_router_126 rfl ?_
        refine zc_V1 (i := i_Mo_router) (pc := 127) 10 rfl m_Mo_end (ztb_of k_848 rfl) (ztb_of k_850 rfl) s_Mo_end d_Mo_router_127 (Nat.le_of_ble_eq_true rfl) (Nat.le_of_ble_eq_true rfl) (Nat.le_of_ble_eq_true rfl) (Nat.le_of_ble_eq_true rfl) (hs.get (t := 0) rfl) (l_end ⟨_, _, hr, hs⟩ ?_)
        refine zo_iconst (i := i_Mo_router) (pc := 130) (v := 0) d_Mo_router_130 (by decide) ?_
        refine zc_V4 (i := i_Mo_router) (pc := 131) 10 rfl m_Mo_enter (ztb_of k_1036 rfl) (ztb_of k_1038 rfl) s_Mo_enter d_Mo_router_131 (Nat.le_of_ble_eq_true rfl) (Nat.le_of_ble_eq_true rfl) (Nat.le_of_ble_eq_true rfl) (Nat.le_of_ble_eq_true rfl) (hs.get (t := 0) rfl) (l_enter (c := 0) (e := zend q.1.2.1 l) ⟨_, _, hr, hs⟩ (by omega) (by show (if l = 1000 then 2000000000 else (lnT q (256 * 1 + a) n).1.2.1 + l) = _; rw [htime, a1]; exact (cv_end (end_ne (by omega) hg.2.2.1)).symm) fun ws hS => ?_)
        obtain ⟨m, F, hr, hs⟩ := hS
        refine zo_aload_n (i := i_Mo_router) (pc := 134) d_Mo_router_134 rfl rfl ?_
        refine zo_iload (i := i_Mo_router) (pc := 135) d_Mo_router_135 rfl ?_
        refine zo_bipush (i := i_Mo_router) (pc := 137) (v := 8) d_Mo_router_137 (by decide) ?_
        refine zo_icmp_lt (i := i_Mo_router) (pc := 139) (tgt := 154) d_Mo_router_139 (by decide) (fun h139 => ?_) (fun h139 => ?_)
        · refine zo_aload_n (i := i_Mo_router) (pc := 154) d_Mo_router_154 rfl rfl ?_
          refine zo_get (i := i_Mo_router) (pc := 155) 10 4 rfl zok_Mo (Nat.le_of_ble_eq_true rfl) (ztb_of k_862 rfl) d_Mo_router_155 (fun _ _ _ h => h) (hs.get (t := 0) rfl) rfl ?_
          refine zh_put (i := i_Mo_router) (pc := 158) 10 4 rfl zok_Mo (Nat.le_of_ble_eq_true rfl) (ztb_of k_862 rfl) rfl d_Mo_router_158 (fun _ _ _ h => h) (t_Mo_ok 4 (Nat.le_of_ble_eq_true rfl)) rfl rfl hs 0 rfl (Nat.le_of_ble_eq_true rfl) fun ws hs => ?_
          refine zo_return (i := i_Mo_router) (pc := 161) hq d_Mo_router_161 rfl (Nat.le_of_ble_eq_true rfl) (Nat.le_of_ble_eq_true rfl) ?_
          replace hs : zHas ws (moW g B (mup m 4 (m 4)) F ++ R) := hs
          obtain ⟨b0, b1, b2, b3, b4, b5, b6, b7⟩ := hr.1
          have hz : ¬ zwithin z 8 40 = true := fun hh => (zw_iff.mp hh).1 h139
          have he : routerT q a n l z = tS (tR (tN (lnT q (256 * 1 + a) n) ((lnT q (256 * 1 + a) n).2.2.2.1.set i (ndR y true))) (tkeep 3 (256 * 1 + a, zend q.1.2.1 l, 0) (tN (lnT q (256 * 1 + a) n) ((lnT q (256 * 1 + a) n).2.2.2.1.set i (ndR y true))).2.2.2.2.1)) (lsS (tR (tN (lnT q (256 * 1 + a) n) ((lnT q (256 * 1 + a) n).2.2.2.1.set i (ndR y true))) (tkeep 3 (256 * 1 + a, zend q.1.2.1 l, 0) (tN (lnT q (256 * 1 + a) n) ((lnT q (256 * 1 + a) n).2.2.2.1.set i (ndR y true))).2.2.2.2.1)).1 (tR (tN (lnT q (256 * 1 + a) n) ((lnT q (256 * 1 + a) n).2.2.2.1.set i (ndR y true))) (tkeep 3 (256 * 1 + a, zend q.1.2.1 l, 0) (tN (lnT q (256 * 1 + a) n) ((lnT q (256 * 1 + a) n).2.2.2.1.set i (ndR y true))).2.2.2.2.1)).1.2.2.1) := by
            unfold routerT
            simp only
            rw [hix.set1, if_neg h108, if_neg hz]
            rfl
          have kk := k0 hg hdn ws
          rw [he] at kk
          refine kk ⟨_, _, hr.setS (m' := mup m 4 (m 4)) ⟨b0, b1, b2, b3, ?_, b5, b6, b7⟩ (fun k hk => mup_ne (by omega)), hs⟩
          exact b4
        · refine zo_iload (i := i_Mo_router) (pc := 142) d_Mo_router_142 rfl ?_
          refine zo_bipush (i := i_Mo_router) (pc := 144) (v := 40) d_Mo_router_144 (by decide) ?_
          refine zo_icmp_gt (i := i_Mo_router) (pc := 146) (tgt := 154) d_Mo_router_146 (by decide) (fun h146 => ?_) (fun h146 => ?_)
          · refine zo_aload_n (i := i_Mo_router) (pc := 154) d_Mo_router_154 rfl rfl ?_
            refine zo_get (i := i_Mo_router) (pc := 155) 10 4 rfl zok_Mo (Nat.le_of_ble_eq_true rfl) (ztb_of k_862 rfl) d_Mo_router_155 (fun _ _ _ h => h) (hs.get (t := 0) rfl) rfl ?_
            refine zh_put (i := i_Mo_router) (pc := 158) 10 4 rfl zok_Mo (Nat.le_of_ble_eq_true rfl) (ztb_of k_862 rfl) rfl d_Mo_router_158 (fun _ _ _ h => h) (t_Mo_ok 4 (Nat.le_of_ble_eq_true rfl)) rfl rfl hs 0 rfl (Nat.le_of_ble_eq_true rfl) fun ws hs => ?_
            refine zo_return (i := i_Mo_router) (pc := 161) hq d_Mo_router_161 rfl (Nat.le_of_ble_eq_true rfl) (Nat.le_of_ble_eq_true rfl) ?_
            replace hs : zHas ws (moW g B (mup m 4 (m 4)) F ++ R) := hs
            obtain ⟨b0, b1, b2, b3, b4, b5, b6, b7⟩ := hr.1
            have hz : ¬ zwithin z 8 40 = true := fun hh => (zw_iff.mp hh).2 h146
            have he : routerT q a n l z = tS (tR (tN (lnT q (256 * 1 + a) n) ((lnT q (256 * 1 + a) n).2.2.2.1.set i (ndR y true))) (tkeep 3 (256 * 1 + a, zend q.1.2.1 l, 0) (tN (lnT q (256 * 1 + a) n) ((lnT q (256 * 1 + a) n).2.2.2.1.set i (ndR y true))).2.2.2.2.1)) (lsS (tR (tN (lnT q (256 * 1 + a) n) ((lnT q (256 * 1 + a) n).2.2.2.1.set i (ndR y true))) (tkeep 3 (256 * 1 + a, zend q.1.2.1 l, 0) (tN (lnT q (256 * 1 + a) n) ((lnT q (256 * 1 + a) n).2.2.2.1.set i (ndR y true))).2.2.2.2.1)).1 (tR (tN (lnT q (256 * 1 + a) n) ((lnT q (256 * 1 + a) n).2.2.2.1.set i (ndR y true))) (tkeep 3 (256 * 1 + a, zend q.1.2.1 l, 0) (tN (lnT q (256 * 1 + a) n) ((lnT q (256 * 1 + a) n).2.2.2.1.set i (ndR y true))).2.2.2.2.1)).1.2.2.1) := by
              unfold routerT
              simp only
              rw [hix.set1, if_neg h108, if_neg hz]
              rfl
            have kk := k0 hg hdn ws
            rw [he] at kk
            refine kk ⟨_, _, hr.setS (m' := mup m 4 (m 4)) ⟨b0, b1, b2, b3, ?_, b5, b6, b7⟩ (fun k hk => mup_ne (by omega)), hs⟩
            exact b4
          · refine zo_iload (i := i_Mo_router) (pc := 149) d_Mo_router_149 rfl ?_
            refine zo_goto (i := i_Mo_router) (pc := 151) (tgt := 158) d_Mo_router_151 (by decide) ?_
            refine zh_put (i := i_Mo_router) (pc := 158) 10 4 rfl zok_Mo (Nat.le_of_ble_eq_true rfl) (ztb_of k_862 rfl) rfl d_Mo_router_158 (fun _ _ _ h => h) (t_Mo_ok 4 (Nat.le_of_ble_eq_true rfl)) rfl rfl hs 0 rfl (Nat.le_of_ble_eq_true rfl) fun ws hs => ?_
            refine zo_return (i := i_Mo_router) (pc := 161) hq d_Mo_router_161 rfl (Nat.le_of_ble_eq_true rfl) (Nat.le_of_ble_eq_true rfl) ?_
            replace hs : zHas ws (moW g B (mup m 4 (z)) F ++ R) := hs
            obtain ⟨b0, b1, b2, b3, b4, b5, b6, b7⟩ := hr.1
            have hz : zwithin z 8 40 = true := zw_iff.mpr ⟨h139, h146⟩
            have he : routerT q a n l z = tS (tR (tN (lnT q (256 * 1 + a) n) ((lnT q (256 * 1 + a) n).2.2.2.1.set i (ndR y true))) (tkeep 3 (256 * 1 + a, zend q.1.2.1 l, 0) (tN (lnT q (256 * 1 + a) n) ((lnT q (256 * 1 + a) n).2.2.2.1.set i (ndR y true))).2.2.2.2.1)) (lsS (tR (tN (lnT q (256 * 1 + a) n) ((lnT q (256 * 1 + a) n).2.2.2.1.set i (ndR y true))) (tkeep 3 (256 * 1 + a, zend q.1.2.1 l, 0) (tN (lnT q (256 * 1 + a) n) ((lnT q (256 * 1 + a) n).2.2.2.1.set i (ndR y true))).2.2.2.2.1)).1 z) := by
              unfold routerT
              simp only
              rw [hix.set1, if_neg h108, if_pos hz]
            have kk := k0 hg hdn ws
            rw [he] at kk
            refine kk ⟨_, _, hr.setS (m' := mup m 4 (z)) ⟨b0, b1, b2, b3, ?_, b5, b6, b7⟩ (fun k hk => mup_ne (by omega)), hs⟩
            rfl
      · refine zo_aload_n (i := i_Mo_router) (pc := 111) d_Mo_router_111 rfl rfl ?_
        refine zo_iconst (i := i_Mo_router) (pc := 112) (v := 0) d_Mo_router_112 (by decide) ?_
        refine zo_iload (i := i_Mo_router) (pc := 113) d_Mo_router_113 rfl ?_
        refine zc_V2 (i := i_Mo_router) (pc := 115) 10 rfl m_Mo_leave (ztb_of k_1028 rfl) (ztb_of k_1030 rfl) s_Mo_leave d_Mo_router_115 (Nat.le_of_ble_eq_true rfl) (Nat.le_of_ble_eq_true rfl) (Nat.le_of_ble_eq_true rfl) (Nat.le_of_ble_eq_true rfl) (hs.get (t := 0) rfl) (l_leave (c := 0) ⟨_, _, hr, hs⟩ (by omega) hnd fun ws hS => ?_)
        obtain ⟨m, F, hr, hs⟩ := hS
        refine zo_goto (i := i_Mo_router) (pc := 118) (tgt := 134) d_Mo_router_118 (by decide) ?_
        refine zo_aload_n (i := i_Mo_router) (pc := 134) d_Mo_router_134 rfl rfl ?_
        refine zo_iload (i := i_Mo_router) (pc := 135) d_Mo_router_135 rfl ?_
        refine zo_bipush (i := i_Mo_router) (pc := 137) (v := 8) d_Mo_router_137 (by decide) ?_
        refine zo_icmp_lt (i := i_Mo_router) (pc := 139) (tgt := 154) d_Mo_router_139 (by decide) (fun h139 => ?_) (fun h139 => ?_)
        · refine zo_aload_n (i := i_Mo_router) (pc := 154) d_Mo_router_154 rfl rfl ?_
          refine zo_get (i := i_Mo_router) (pc := 155) 10 4 rfl zok_Mo (Nat.le_of_ble_eq_true rfl) (ztb_of k_862 rfl) d_Mo_router_155 (fun _ _ _ h => h) (hs.get (t := 0) rfl) rfl ?_
          refine zh_put (i := i_Mo_router) (pc := 158) 10 4 rfl zok_Mo (Nat.le_of_ble_eq_true rfl) (ztb_of k_862 rfl) rfl d_Mo_router_158 (fun _ _ _ h => h) (t_Mo_ok 4 (Nat.le_of_ble_eq_true rfl)) rfl rfl hs 0 rfl (Nat.le_of_ble_eq_true rfl) fun ws hs => ?_
          refine zo_return (i := i_Mo_router) (pc := 161) hq d_Mo_router_161 rfl (Nat.le_of_ble_eq_true rfl) (Nat.le_of_ble_eq_true rfl) ?_
          replace hs : zHas ws (moW g B (mup m 4 (m 4)) F ++ R) := hs
          obtain ⟨b0, b1, b2, b3, b4, b5, b6, b7⟩ := hr.1
          have hz : ¬ zwithin z 8 40 = true := fun hh => (zw_iff.mp hh).1 h139
          have he : routerT q a n l z = tS (tR (tN (lnT q (256 * 1 + a) n) ((lnT q (256 * 1 + a) n).2.2.2.1.set i (ndR y true))) ((tN (lnT q (256 * 1 + a) n) ((lnT q (256 * 1 + a) n).2.2.2.1.set i (ndR y true))).2.2.2.2.1.filter (fun e => !decide (e.1 = 256 * 1 + a)))) (lsS (tR (tN (lnT q (256 * 1 + a) n) ((lnT q (256 * 1 + a) n).2.2.2.1.set i (ndR y true))) ((tN (lnT q (256 * 1 + a) n) ((lnT q (256 * 1 + a) n).2.2.2.1.set i (ndR y true))).2.2.2.2.1.filter (fun e => !decide (e.1 = 256 * 1 + a)))).1 (tR (tN (lnT q (256 * 1 + a) n) ((lnT q (256 * 1 + a) n).2.2.2.1.set i (ndR y true))) ((tN (lnT q (256 * 1 + a) n) ((lnT q (256 * 1 + a) n).2.2.2.1.set i (ndR y true))).2.2.2.2.1.filter (fun e => !decide (e.1 = 256 * 1 + a)))).1.2.2.1) := by
            unfold routerT
            simp only
            rw [hix.set1, if_pos h108, if_neg hz]
            rfl
          have kk := k0 hg hdn ws
          rw [he] at kk
          refine kk ⟨_, _, hr.setS (m' := mup m 4 (m 4)) ⟨b0, b1, b2, b3, ?_, b5, b6, b7⟩ (fun k hk => mup_ne (by omega)), hs⟩
          exact b4
        · refine zo_iload (i := i_Mo_router) (pc := 142) d_Mo_router_142 rfl ?_
          refine zo_bipush (i := i_Mo_router) (pc := 144) (v := 40) d_Mo_router_144 (by decide) ?_
          refine zo_icmp_gt (i := i_Mo_router) (pc := 146) (tgt := 154) d_Mo_router_146 (by decide) (fun h146 => ?_) (fun h146 => ?_)
          · refine zo_aload_n (i := i_Mo_router) (pc := 154) d_Mo_router_154 rfl rfl ?_
            refine zo_get (i := i_Mo_router) (pc := 155) 10 4 rfl zok_Mo (Nat.le_of_ble_eq_true rfl) (ztb_of k_862 rfl) d_Mo_router_155 (fun _ _ _ h => h) (hs.get (t := 0) rfl) rfl ?_
            refine zh_put (i := i_Mo_router) (pc := 158) 10 4 rfl zok_Mo (Nat.le_of_ble_eq_true rfl) (ztb_of k_862 rfl) rfl d_Mo_router_158 (fun _ _ _ h => h) (t_Mo_ok 4 (Nat.le_of_ble_eq_true rfl)) rfl rfl hs 0 rfl (Nat.le_of_ble_eq_true rfl) fun ws hs => ?_
            refine zo_return (i := i_Mo_router) (pc := 161) hq d_Mo_router_161 rfl (Nat.le_of_ble_eq_true rfl) (Nat.le_of_ble_eq_true rfl) ?_
            replace hs : zHas ws (moW g B (mup m 4 (m 4)) F ++ R) := hs
            obtain ⟨b0, b1, b2, b3, b4, b5, b6, b7⟩ := hr.1
            have hz : ¬ zwithin z 8 40 = true := fun hh => (zw_iff.mp hh).2 h146
            have he : routerT q a n l z = tS (tR (tN (lnT q (256 * 1 + a) n) ((lnT q (256 * 1 + a) n).2.2.2.1.set i (ndR y true))) ((tN (lnT q (256 * 1 + a) n) ((lnT q (256 * 1 + a) n).2.2.2.1.set i (ndR y true))).2.2.2.2.1.filter (fun e => !decide (e.1 = 256 * 1 + a)))) (lsS (tR (tN (lnT q (256 * 1 + a) n) ((lnT q (256 * 1 + a) n).2.2.2.1.set i (ndR y true))) ((tN (lnT q (256 * 1 + a) n) ((lnT q (256 * 1 + a) n).2.2.2.1.set i (ndR y true))).2.2.2.2.1.filter (fun e => !decide (e.1 = 256 * 1 + a)))).1 (tR (tN (lnT q (256 * 1 + a) n) ((lnT q (256 * 1 + a) n).2.2.2.1.set i (ndR y true))) ((tN (lnT q (256 * 1 + a) n) ((lnT q (256 * 1 + a) n).2.2.2.1.set i (ndR y true))).2.2.2.2.1.filter (fun e => !decide (e.1 = 256 * 1 + a)))).1.2.2.1) := by
              unfold routerT
              simp only
              rw [hix.set1, if_pos h108, if_neg hz]
              rfl
            have kk := k0 hg hdn ws
            rw [he] at kk
            refine kk ⟨_, _, hr.setS (m' := mup m 4 (m 4)) ⟨b0, b1, b2, b3, ?_, b5, b6, b7⟩ (fun k hk => mup_ne (by omega)), hs⟩
            exact b4
          · refine zo_iload (i := i_Mo_router) (pc := 149) d_Mo_router_149 rfl ?_
            refine zo_goto (i := i_Mo_router) (pc := 151) (tgt := 158) d_Mo_router_151 (by decide) ?_
            refine zh_put (i := i_Mo_router) (pc := 158) 10 4 rfl zok_Mo (Nat.le_of_ble_eq_true rfl) (ztb_of k_862 rfl) rfl d_Mo_router_158 (fun _ _ _ h => h) (t_Mo_ok 4 (Nat.le_of_ble_eq_true rfl)) rfl rfl hs 0 rfl (Nat.le_of_ble_eq_true rfl) fun ws hs => ?_
            refine zo_return (i := i_Mo_router) (pc := 161) hq d_Mo_router_161 rfl (Nat.le_of_ble_eq_true rfl) (Nat.le_of_ble_eq_true rfl) ?_
            replace hs : zHas ws (moW g B (mup m 4 (z)) F ++ R) := hs
            obtain ⟨b0, b1, b2, b3, b4, b5, b6, b7⟩ := hr.1
            have hz : zwithin z 8 40 = true := zw_iff.mpr ⟨h139, h146⟩
            have he : routerT q a n l z = tS (tR (tN (lnT q (256 * 1 + a) n) ((lnT q (256 * 1 + a) n).2.2.2.1.set i (ndR y true))) ((tN (lnT q (256 * 1 + a) n) ((lnT q (256 * 1 + a) n).2.2.2.1.set i (ndR y true))).2.2.2.2.1.filter (fun e => !decide (e.1 = 256 * 1 + a)))) (lsS (tR (tN (lnT q (256 * 1 + a) n) ((lnT q (256 * 1 + a) n).2.2.2.1.set i (ndR y true))) ((tN (lnT q (256 * 1 + a) n) ((lnT q (256 * 1 + a) n).2.2.2.1.set i (ndR y true))).2.2.2.2.1.filter (fun e => !decide (e.1 = 256 * 1 + a)))).1 z) := by
              unfold routerT
              simp only
              rw [hix.set1, if_pos h108, if_pos hz]
            have kk := k0 hg hdn ws
            rw [he] at kk
            refine kk ⟨_, _, hr.setS (m' := mup m 4 (z)) ⟨b0, b1, b2, b3, ?_, b5, b6, b7⟩ (fun k hk => mup_ne (by omega)), hs⟩
            rfl
    · refine zo_iload_n (i := i_Mo_router) (pc := 0) d_Mo_router_0 rfl ?_
      refine zo_iconst (i := i_Mo_router) (pc := 1) (v := 1) d_Mo_router_1 (by decide) ?_
      refine zo_icmp_lt (i := i_Mo_router) (pc := 2) (tgt := 43) d_Mo_router_2 (by decide) (fun h2 => False.elim (by first | exact absurd h2 ((zw_iff.mp hg.1).1) | exact absurd ((zw_iff.mp hg.1).1) h2)) (fun h2 => ?_)
      refine zo_iload_n (i := i_Mo_router) (pc := 5) d_Mo_router_5 rfl ?_
      refine zo_sipush (i := i_Mo_router) (pc := 6) (v := 254) d_Mo_router_6 (by decide) ?_
      refine zo_icmp_gt (i := i_Mo_router) (pc := 9) (tgt := 43) d_Mo_router_9 (by decide) (fun h9 => False.elim (by first | exact absurd h9 ((zw_iff.mp hg.1).2) | exact absurd ((zw_iff.mp hg.1).2) h9)) (fun h9 => ?_)
      refine zo_aload_n (i := i_Mo_router) (pc := 12) d_Mo_router_12 rfl rfl ?_
      refine zo_iload_n (i := i_Mo_router) (pc := 13) d_Mo_router_13 rfl ?_
      refine zc_V1 (i := i_Mo_router) (pc := 14) 10 rfl m_Mo_isNumber (ztb_of k_1004 rfl) (ztb_of k_1006 rfl) s_Mo_isNumber d_Mo_router_14 (Nat.le_of_ble_eq_true rfl) (Nat.le_of_ble_eq_true rfl) (Nat.le_of_ble_eq_true rfl) (Nat.le_of_ble_eq_true rfl) (hs.get (t := 0) rfl) (c_Mo_isNumber ?_)
      refine zo_if_eq (i := i_Mo_router) (pc := 17) (tgt := 43) d_Mo_router_17 (by decide) (fun h17 => False.elim (by first | exact absurd h17 ((by rw [hg.2.1]; decide)) | exact absurd ((by rw [hg.2.1]; decide)) h17)) (fun h17 => ?_)
      refine zo_iload_n (i := i_Mo_router) (pc := 20) d_Mo_router_20 rfl ?_
      refine zo_if_lt (i := i_Mo_router) (pc := 21) (tgt := 43) d_Mo_router_21 (by decide) (fun h21 => False.elim (by first | exact absurd h21 ((zw_iff.mp hg.2.2.1).1) | exact absurd ((zw_iff.mp hg.2.2.1).1) h21)) (fun h21 => ?_)
      refine zo_iload_n (i := i_Mo_router) (pc := 24) d_Mo_router_24 rfl ?_
      refine zo_sipush (i := i_Mo_router) (pc := 25) (v := 1000) d_Mo_router_25 (by decide) ?_
      refine zo_icmp_gt (i := i_Mo_router) (pc := 28) (tgt := 43) d_Mo_router_28 (by decide) (fun h28 => False.elim (by first | exact absurd h28 ((zw_iff.mp hg.2.2.1).2) | exact absurd ((zw_iff.mp hg.2.2.1).2) h28)) (fun h28 => ?_)
      refine zo_iload (i := i_Mo_router) (pc := 31) d_Mo_router_31 rfl ?_
      refine zo_if_lt (i := i_Mo_router) (pc := 33) (tgt := 43) d_Mo_router_33 (by decide) (fun h33 => False.elim (by first | exact absurd h33 ((zw_iff.mp hg.2.2.2).1) | exact absurd ((zw_iff.mp hg.2.2.2).1) h33)) (fun h33 => ?_)
      refine zo_iload (i := i_Mo_router) (pc := 36) d_Mo_router_36 rfl ?_
      refine zo_bipush (i := i_Mo_router) (pc := 38) (v := 99) d_Mo_router_38 (by decide) ?_
      refine zo_icmp_le (i := i_Mo_router) (pc := 40) (tgt := 47) d_Mo_router_40 (by decide) (fun h40 => ?_) (fun h40 => False.elim (by first | exact absurd h40 ((Int32.not_lt.mp (zw_iff.mp hg.2.2.2).2)) | exact absurd ((Int32.not_lt.mp (zw_iff.mp hg.2.2.2).2)) h40))
      refine zo_iconst (i := i_Mo_router) (pc := 47) (v := 0) d_Mo_router_47 (by decide) ?_
      refine zo_istore (i := i_Mo_router) (pc := 48) d_Mo_router_48 (Nat.le_of_ble_eq_true rfl) ?_
      refine zo_aload_n (i := i_Mo_router) (pc := 50) d_Mo_router_50 rfl rfl ?_
      refine zo_iload (i := i_Mo_router) (pc := 51) d_Mo_router_51 rfl ?_
      refine zo_if_eq (i := i_Mo_router) (pc := 53) (tgt := 60) d_Mo_router_53 (by decide) (fun h53 => ?_) (fun h53 => False.elim (by first | exact absurd h53 (rfl) | exact absurd (rfl) h53))
      refine zo_aload_n (i := i_Mo_router) (pc := 60) d_Mo_router_60 rfl rfl ?_
      refine zo_get (i := i_Mo_router) (pc := 61) 10 3 rfl zok_Mo (Nat.le_of_ble_eq_true rfl) (ztb_of k_861 rfl) d_Mo_router_61 (fun _ _ _ h => h) (hs.get (t := 0) rfl) rfl ?_
      refine zo_if_eq (i := i_Mo_router) (pc := 64) (tgt := 71) d_Mo_router_64 (by decide) (fun h64 => False.elim (by first | exact absurd h64 ((by rw [hr.1.2.2.2.1, hdn]; decide)) | exact absurd ((by rw [hr.1.2.2.2.1, hdn]; decide)) h64)) (fun h64 => ?_)
      refine zo_iconst (i := i_Mo_router) (pc := 67) (v := 2) d_Mo_router_67 (by decide) ?_
      refine zo_goto (i := i_Mo_router) (pc := 68) (tgt := 72) d_Mo_router_68 (by decide) ?_
      refine zh_put (i := i_Mo_router) (pc := 72) 10 0 rfl zok_Mo (Nat.le_of_ble_eq_true rfl) (ztb_of k_858 rfl) rfl d_Mo_router_72 (fun _ _ _ h => h) (t_Mo_ok 0 (Nat.le_of_ble_eq_true rfl)) rfl rfl hs 0 rfl (Nat.le_of_ble_eq_true rfl) fun ws hs => ?_
      refine zo_aload_n (i := i_Mo_router) (pc := 75) d_Mo_router_75 rfl rfl ?_
      refine zo_get (i := i_Mo_router) (pc := 76) 10 0 rfl zok_Mo (Nat.le_of_ble_eq_true rfl) (ztb_of k_858 rfl) d_Mo_router_76 (fun _ _ _ h => h) (hs.get (t := 0) rfl) rfl ?_
      refine zo_if_eq (i := i_Mo_router) (pc := 79) (tgt := 83) d_Mo_router_79 (by decide) (fun h79 => False.elim (by first | exact absurd h79 ((by decide)) | exact absurd ((by decide)) h79)) (fun h79 => ?_)
      refine zo_return (i := i_Mo_router) (pc := 82) hq d_Mo_router_82 rfl (Nat.le_of_ble_eq_true rfl) (Nat.le_of_ble_eq_true rfl) ?_
      exact k2 hg hdn ws ⟨_, _, hr.thrown, hs⟩
  · refine zo_iload_n (i := i_Mo_router) (pc := 0) d_Mo_router_0 rfl ?_
    refine zo_iconst (i := i_Mo_router) (pc := 1) (v := 1) d_Mo_router_1 (by decide) ?_
    refine zo_icmp_lt (i := i_Mo_router) (pc := 2) (tgt := 43) d_Mo_router_2 (by decide) (fun h2 => ?_) (fun h2 => ?_)
    · refine zo_iconst (i := i_Mo_router) (pc := 43) (v := 1) d_Mo_router_43 (by decide) ?_
      refine zo_goto (i := i_Mo_router) (pc := 44) (tgt := 48) d_Mo_router_44 (by decide) ?_
      refine zo_istore (i := i_Mo_router) (pc := 48) d_Mo_router_48 (Nat.le_of_ble_eq_true rfl) ?_
      refine zo_aload_n (i := i_Mo_router) (pc := 50) d_Mo_router_50 rfl rfl ?_
      refine zo_iload (i := i_Mo_router) (pc := 51) d_Mo_router_51 rfl ?_
      refine zo_if_eq (i := i_Mo_router) (pc := 53) (tgt := 60) d_Mo_router_53 (by decide) (fun h53 => False.elim (by first | exact absurd h53 ((by decide)) | exact absurd ((by decide)) h53)) (fun h53 => ?_)
      refine zo_iconst (i := i_Mo_router) (pc := 56) (v := 1) d_Mo_router_56 (by decide) ?_
      refine zo_goto (i := i_Mo_router) (pc := 57) (tgt := 72) d_Mo_router_57 (by decide) ?_
      refine zh_put (i := i_Mo_router) (pc := 72) 10 0 rfl zok_Mo (Nat.le_of_ble_eq_true rfl) (ztb_of k_858 rfl) rfl d_Mo_router_72 (fun _ _ _ h => h) (t_Mo_ok 0 (Nat.le_of_ble_eq_true rfl)) rfl rfl hs 0 rfl (Nat.le_of_ble_eq_true rfl) fun ws hs => ?_
      refine zo_aload_n (i := i_Mo_router) (pc := 75) d_Mo_router_75 rfl rfl ?_
      refine zo_get (i := i_Mo_router) (pc := 76) 10 0 rfl zok_Mo (Nat.le_of_ble_eq_true rfl) (ztb_of k_858 rfl) d_Mo_router_76 (fun _ _ _ h => h) (hs.get (t := 0) rfl) rfl ?_
      refine zo_if_eq (i := i_Mo_router) (pc := 79) (tgt := 83) d_Mo_router_79 (by decide) (fun h79 => False.elim (by first | exact absurd h79 ((by decide)) | exact absurd ((by decide)) h79)) (fun h79 => ?_)
      refine zo_return (i := i_Mo_router) (pc := 82) hq d_Mo_router_82 rfl (Nat.le_of_ble_eq_true rfl) (Nat.le_of_ble_eq_true rfl) ?_
      exact k1 hg ws ⟨_, _, hr.thrown, hs⟩
    · refine zo_iload_n (i := i_Mo_router) (pc := 5) d_Mo_router_5 rfl ?_
      refine zo_sipush (i := i_Mo_router) (pc := 6) (v := 254) d_Mo_router_6 (by decide) ?_
      refine zo_icmp_gt (i := i_Mo_router) (pc := 9) (tgt := 43) d_Mo_router_9 (by decide) (fun h9 => ?_) (fun h9 => ?_)
      · refine zo_iconst (i := i_Mo_router) (pc := 43) (v := 1) d_Mo_router_43 (by decide) ?_
        refine zo_goto (i := i_Mo_router) (pc := 44) (tgt := 48) d_Mo_router_44 (by decide) ?_
        refine zo_istore (i := i_Mo_router) (pc := 48) d_Mo_router_48 (Nat.le_of_ble_eq_true rfl) ?_
        refine zo_aload_n (i := i_Mo_router) (pc := 50) d_Mo_router_50 rfl rfl ?_
        refine zo_iload (i := i_Mo_router) (pc := 51) d_Mo_router_51 rfl ?_
        refine zo_if_eq (i := i_Mo_router) (pc := 53) (tgt := 60) d_Mo_router_53 (by decide) (fun h53 => False.elim (by first | exact absurd h53 ((by decide)) | exact absurd ((by decide)) h53)) (fun h53 => ?_)
        refine zo_iconst (i := i_Mo_router) (pc := 56) (v := 1) d_Mo_router_56 (by decide) ?_
        refine zo_goto (i := i_Mo_router) (pc := 57) (tgt := 72) d_Mo_router_57 (by decide) ?_
        refine zh_put (i := i_Mo_router) (pc := 72) 10 0 rfl zok_Mo (Nat.le_of_ble_eq_true rfl) (ztb_of k_858 rfl) rfl d_Mo_router_72 (fun _ _ _ h => h) (t_Mo_ok 0 (Nat.le_of_ble_eq_true rfl)) rfl rfl hs 0 rfl (Nat.le_of_ble_eq_true rfl) fun ws hs => ?_
        refine zo_aload_n (i := i_Mo_router) (pc := 75) d_Mo_router_75 rfl rfl ?_
        refine zo_get (i := i_Mo_router) (pc := 76) 10 0 rfl zok_Mo (Nat.le_of_ble_eq_true rfl) (ztb_of k_858 rfl) d_Mo_router_76 (fun _ _ _ h => h) (hs.get (t := 0) rfl) rfl ?_
        refine zo_if_eq (i := i_Mo_router) (pc := 79) (tgt := 83) d_Mo_router_79 (by decide) (fun h79 => False.elim (by first | exact absurd h79 ((by decide)) | exact absurd ((by decide)) h79)) (fun h79 => ?_)
        refine zo_return (i := i_Mo_router) (pc := 82) hq d_Mo_router_82 rfl (Nat.le_of_ble_eq_true rfl) (Nat.le_of_ble_eq_true rfl) ?_
        exact k1 hg ws ⟨_, _, hr.thrown, hs⟩
      · refine zo_aload_n (i := i_Mo_router) (pc := 12) d_Mo_router_12 rfl rfl ?_
        refine zo_iload_n (i := i_Mo_router) (pc := 13) d_Mo_router_13 rfl ?_
        refine zc_V1 (i := i_Mo_router) (pc := 14) 10 rfl m_Mo_isNumber (ztb_of k_1004 rfl) (ztb_of k_1006 rfl) s_Mo_isNumber d_Mo_router_14 (Nat.le_of_ble_eq_true rfl) (Nat.le_of_ble_eq_true rfl) (Nat.le_of_ble_eq_true rfl) (Nat.le_of_ble_eq_true rfl) (hs.get (t := 0) rfl) (c_Mo_isNumber ?_)
        refine zo_if_eq (i := i_Mo_router) (pc := 17) (tgt := 43) d_Mo_router_17 (by decide) (fun h17 => ?_) (fun h17 => ?_)
        · refine zo_iconst (i := i_Mo_router) (pc := 43) (v := 1) d_Mo_router_43 (by decide) ?_
          refine zo_goto (i := i_Mo_router) (pc := 44) (tgt := 48) d_Mo_router_44 (by decide) ?_
          refine zo_istore (i := i_Mo_router) (pc := 48) d_Mo_router_48 (Nat.le_of_ble_eq_true rfl) ?_
          refine zo_aload_n (i := i_Mo_router) (pc := 50) d_Mo_router_50 rfl rfl ?_
          refine zo_iload (i := i_Mo_router) (pc := 51) d_Mo_router_51 rfl ?_
          refine zo_if_eq (i := i_Mo_router) (pc := 53) (tgt := 60) d_Mo_router_53 (by decide) (fun h53 => False.elim (by first | exact absurd h53 ((by decide)) | exact absurd ((by decide)) h53)) (fun h53 => ?_)
          refine zo_iconst (i := i_Mo_router) (pc := 56) (v := 1) d_Mo_router_56 (by decide) ?_
          refine zo_goto (i := i_Mo_router) (pc := 57) (tgt := 72) d_Mo_router_57 (by decide) ?_
          refine zh_put (i := i_Mo_router) (pc := 72) 10 0 rfl zok_Mo (Nat.le_of_ble_eq_true rfl) (ztb_of k_858 rfl) rfl d_Mo_router_72 (fun _ _ _ h => h) (t_Mo_ok 0 (Nat.le_of_ble_eq_true rfl)) rfl rfl hs 0 rfl (Nat.le_of_ble_eq_true rfl) fun ws hs => ?_
          refine zo_aload_n (i := i_Mo_router) (pc := 75) d_Mo_router_75 rfl rfl ?_
          refine zo_get (i := i_Mo_router) (pc := 76) 10 0 rfl zok_Mo (Nat.le_of_ble_eq_true rfl) (ztb_of k_858 rfl) d_Mo_router_76 (fun _ _ _ h => h) (hs.get (t := 0) rfl) rfl ?_
          refine zo_if_eq (i := i_Mo_router) (pc := 79) (tgt := 83) d_Mo_router_79 (by decide) (fun h79 => False.elim (by first | exact absurd h79 ((by decide)) | exact absurd ((by decide)) h79)) (fun h79 => ?_)
          refine zo_return (i := i_Mo_router) (pc := 82) hq d_Mo_router_82 rfl (Nat.le_of_ble_eq_true rfl) (Nat.le_of_ble_eq_true rfl) ?_
          exact k1 hg ws ⟨_, _, hr.thrown, hs⟩
        · refine zo_iload_n (i := i_Mo_router) (pc := 20) d_Mo_router_20 rfl ?_
          refine zo_if_lt (i := i_Mo_router) (pc := 21) (tgt := 43) d_Mo_router_21 (by decide) (fun h21 => ?_) (fun h21 => ?_)
          · refine zo_iconst (i := i_Mo_router) (pc := 43) (v := 1) d_Mo_router_43 (by decide) ?_
            refine zo_goto (i := i_Mo_router) (pc := 44) (tgt := 48) d_Mo_router_44 (by decide) ?_
            refine zo_istore (i := i_Mo_router) (pc := 48) d_Mo_router_48 (Nat.le_of_ble_eq_true rfl) ?_
            refine zo_aload_n (i := i_Mo_router) (pc := 50) d_Mo_router_50 rfl rfl ?_
            refine zo_iload (i := i_Mo_router) (pc := 51) d_Mo_router_51 rfl ?_
            refine zo_if_eq (i := i_Mo_router) (pc := 53) (tgt := 60) d_Mo_router_53 (by decide) (fun h53 => False.elim (by first | exact absurd h53 ((by decide)) | exact absurd ((by decide)) h53)) (fun h53 => ?_)
            refine zo_iconst (i := i_Mo_router) (pc := 56) (v := 1) d_Mo_router_56 (by decide) ?_
            refine zo_goto (i := i_Mo_router) (pc := 57) (tgt := 72) d_Mo_router_57 (by decide) ?_
            refine zh_put (i := i_Mo_router) (pc := 72) 10 0 rfl zok_Mo (Nat.le_of_ble_eq_true rfl) (ztb_of k_858 rfl) rfl d_Mo_router_72 (fun _ _ _ h => h) (t_Mo_ok 0 (Nat.le_of_ble_eq_true rfl)) rfl rfl hs 0 rfl (Nat.le_of_ble_eq_true rfl) fun ws hs => ?_
            refine zo_aload_n (i := i_Mo_router) (pc := 75) d_Mo_router_75 rfl rfl ?_
            refine zo_get (i := i_Mo_router) (pc := 76) 10 0 rfl zok_Mo (Nat.le_of_ble_eq_true rfl) (ztb_of k_858 rfl) d_Mo_router_76 (fun _ _ _ h => h) (hs.get (t := 0) rfl) rfl ?_
            refine zo_if_eq (i := i_Mo_router) (pc := 79) (tgt := 83) d_Mo_router_79 (by decide) (fun h79 => False.elim (by first | exact absurd h79 ((by decide)) | exact absurd ((by decide)) h79)) (fun h79 => ?_)
            refine zo_return (i := i_Mo_router) (pc := 82) hq d_Mo_router_82 rfl (Nat.le_of_ble_eq_true rfl) (Nat.le_of_ble_eq_true rfl) ?_
            exact k1 hg ws ⟨_, _, hr.thrown, hs⟩
          · refine zo_iload_n (i := i_Mo_router) (pc := 24) d_Mo_router_24 rfl ?_
            refine zo_sipush (i := i_Mo_router) (pc := 25) (v := 1000) d_Mo_router_25 (by decide) ?_
            refine zo_icmp_gt (i := i_Mo_router) (pc := 28) (tgt := 43) d_Mo_router_28 (by decide) (fun h28 => ?_) (fun h28 => ?_)
            · refine zo_iconst (i := i_Mo_router) (pc := 43) (v := 1) d_Mo_router_43 (by decide) ?_
              refine zo_goto (i := i_Mo_router) (pc := 44) (tgt := 48) d_Mo_router_44 (by decide) ?_
              refine zo_istore (i := i_Mo_router) (pc := 48) d_Mo_router_48 (Nat.le_of_ble_eq_true rfl) ?_
              refine zo_aload_n (i := i_Mo_router) (pc := 50) d_Mo_router_50 rfl rfl ?_
              refine zo_iload (i := i_Mo_router) (pc := 51) d_Mo_router_51 rfl ?_
              refine zo_if_eq (i := i_Mo_router) (pc := 53) (tgt := 60) d_Mo_router_53 (by decide) (fun h53 => False.elim (by first | exact absurd h53 ((by decide)) | exact absurd ((by decide)) h53)) (fun h53 => ?_)
              refine zo_iconst (i := i_Mo_router) (pc := 56) (v := 1) d_Mo_router_56 (by decide) ?_
              refine zo_goto (i := i_Mo_router) (pc := 57) (tgt := 72) d_Mo_router_57 (by decide) ?_
              refine zh_put (i := i_Mo_router) (pc := 72) 10 0 rfl zok_Mo (Nat.le_of_ble_eq_true rfl) (ztb_of k_858 rfl) rfl d_Mo_router_72 (fun _ _ _ h => h) (t_Mo_ok 0 (Nat.le_of_ble_eq_true rfl)) rfl rfl hs 0 rfl (Nat.le_of_ble_eq_true rfl) fun ws hs => ?_
              refine zo_aload_n (i := i_Mo_router) (pc := 75) d_Mo_router_75 rfl rfl ?_
              refine zo_get (i := i_Mo_router) (pc := 76) 10 0 rfl zok_Mo (Nat.le_of_ble_eq_true rfl) (ztb_of k_858 rfl) d_Mo_router_76 (fun _ _ _ h => h) (hs.get (t := 0) rfl) rfl ?_
              refine zo_if_eq (i := i_Mo_router) (pc := 79) (tgt := 83) d_Mo_router_79 (by decide) (fun h79 => False.elim (by first | exact absurd h79 ((by decide)) | exact absurd ((by decide)) h79)) (fun h79 => ?_)
              refine zo_return (i := i_Mo_router) (pc := 82) hq d_Mo_router_82 rfl (Nat.le_of_ble_eq_true rfl) (Nat.le_of_ble_eq_true rfl) ?_
              exact k1 hg ws ⟨_, _, hr.thrown, hs⟩
            · refine zo_iload (i := i_Mo_router) (pc := 31) d_Mo_router_31 rfl ?_
              refine zo_if_lt (i := i_Mo_router) (pc := 33) (tgt := 43) d_Mo_router_33 (by decide) (fun h33 => ?_) (fun h33 => ?_)
              · refine zo_iconst (i := i_Mo_router) (pc := 43) (v := 1) d_Mo_router_43 (by decide) ?_
                refine zo_goto (i := i_Mo_router) (pc := 44) (tgt := 48) d_Mo_router_44 (by decide) ?_
                refine zo_istore (i := i_Mo_router) (pc := 48) d_Mo_router_48 (Nat.le_of_ble_eq_true rfl) ?_
                refine zo_aload_n (i := i_Mo_router) (pc := 50) d_Mo_router_50 rfl rfl ?_
                refine zo_iload (i := i_Mo_router) (pc := 51) d_Mo_router_51 rfl ?_
                refine zo_if_eq (i := i_Mo_router) (pc := 53) (tgt := 60) d_Mo_router_53 (by decide) (fun h53 => False.elim (by first | exact absurd h53 ((by decide)) | exact absurd ((by decide)) h53)) (fun h53 => ?_)
                refine zo_iconst (i := i_Mo_router) (pc := 56) (v := 1) d_Mo_router_56 (by decide) ?_
                refine zo_goto (i := i_Mo_router) (pc := 57) (tgt := 72) d_Mo_router_57 (by decide) ?_
                refine zh_put (i := i_Mo_router) (pc := 72) 10 0 rfl zok_Mo (Nat.le_of_ble_eq_true rfl) (ztb_of k_858 rfl) rfl d_Mo_router_72 (fun _ _ _ h => h) (t_Mo_ok 0 (Nat.le_of_ble_eq_true rfl)) rfl rfl hs 0 rfl (Nat.le_of_ble_eq_true rfl) fun ws hs => ?_
                refine zo_aload_n (i := i_Mo_router) (pc := 75) d_Mo_router_75 rfl rfl ?_
                refine zo_get (i := i_Mo_router) (pc := 76) 10 0 rfl zok_Mo (Nat.le_of_ble_eq_true rfl) (ztb_of k_858 rfl) d_Mo_router_76 (fun _ _ _ h => h) (hs.get (t := 0) rfl) rfl ?_
                refine zo_if_eq (i := i_Mo_router) (pc := 79) (tgt := 83) d_Mo_router_79 (by decide) (fun h79 => False.elim (by first | exact absurd h79 ((by decide)) | exact absurd ((by decide)) h79)) (fun h79 => ?_)
                refine zo_return (i := i_Mo_router) (pc := 82) hq d_Mo_router_82 rfl (Nat.le_of_ble_eq_true rfl) (Nat.le_of_ble_eq_true rfl) ?_
                exact k1 hg ws ⟨_, _, hr.thrown, hs⟩
              · refine zo_iload (i := i_Mo_router) (pc := 36) d_Mo_router_36 rfl ?_
                refine zo_bipush (i := i_Mo_router) (pc := 38) (v := 99) d_Mo_router_38 (by decide) ?_
                refine zo_icmp_le (i := i_Mo_router) (pc := 40) (tgt := 47) d_Mo_router_40 (by decide) (fun h40 => False.elim (by first | exact absurd h40 ((fun hh => hg ⟨zw_iff.mpr ⟨h2, h9⟩, zb_ne h17, zw_iff.mpr ⟨h21, h28⟩, zw_iff.mpr ⟨h33, Int32.not_lt.mpr hh⟩⟩)) | exact absurd ((fun hh => hg ⟨zw_iff.mpr ⟨h2, h9⟩, zb_ne h17, zw_iff.mpr ⟨h21, h28⟩, zw_iff.mpr ⟨h33, Int32.not_lt.mpr hh⟩⟩)) h40)) (fun h40 => ?_)
                refine zo_iconst (i := i_Mo_router) (pc := 43) (v := 1) d_Mo_router_43 (by decide) ?_
                refine zo_goto (i := i_Mo_router) (pc := 44) (tgt := 48) d_Mo_router_44 (by decide) ?_
                refine zo_istore (i := i_Mo_router) (pc := 48) d_Mo_router_48 (Nat.le_of_ble_eq_true rfl) ?_
                refine zo_aload_n (i := i_Mo_router) (pc := 50) d_Mo_router_50 rfl rfl ?_
                refine zo_iload (i := i_Mo_router) (pc := 51) d_Mo_router_51 rfl ?_
                refine zo_if_eq (i := i_Mo_router) (pc := 53) (tgt := 60) d_Mo_router_53 (by decide) (fun h53 => False.elim (by first | exact absurd h53 ((by decide)) | exact absurd ((by decide)) h53)) (fun h53 => ?_)
                refine zo_iconst (i := i_Mo_router) (pc := 56) (v := 1) d_Mo_router_56 (by decide) ?_
                refine zo_goto (i := i_Mo_router) (pc := 57) (tgt := 72) d_Mo_router_57 (by decide) ?_
                refine zh_put (i := i_Mo_router) (pc := 72) 10 0 rfl zok_Mo (Nat.le_of_ble_eq_true rfl) (ztb_of k_858 rfl) rfl d_Mo_router_72 (fun _ _ _ h => h) (t_Mo_ok 0 (Nat.le_of_ble_eq_true rfl)) rfl rfl hs 0 rfl (Nat.le_of_ble_eq_true rfl) fun ws hs => ?_
                refine zo_aload_n (i := i_Mo_router) (pc := 75) d_Mo_router_75 rfl rfl ?_
                refine zo_get (i := i_Mo_router) (pc := 76) 10 0 rfl zok_Mo (Nat.le_of_ble_eq_true rfl) (ztb_of k_858 rfl) d_Mo_router_76 (fun _ _ _ h => h) (hs.get (t := 0) rfl) rfl ?_
                refine zo_if_eq (i := i_Mo_router) (pc := 79) (tgt := 83) d_Mo_router_79 (by decide) (fun h79 => False.elim (by first | exact absurd h79 ((by decide)) | exact absurd ((by decide)) h79)) (fun h79 => ?_)
                refine zo_return (i := i_Mo_router) (pc := 82) hq d_Mo_router_82 rfl (Nat.le_of_ble_eq_true rfl) (Nat.le_of_ble_eq_true rfl) ?_
                exact k1 hg ws ⟨_, _, hr.thrown, hs⟩
