/-! The model by states: asked (walks by a program, gen77.py). -/
theorem zb_no {b : Bool} (h : ¬ b = true) : zb b = 0 := by
  cases b
  · rfl
  · exact absurd rfl h
theorem l_asked {g : zG} {ws : va_W} {post : Option Value → va_W → Prop} {B : Nat → Nat} {q : hT} {t : Int32} {R : va_W} (h : mS g B q t R ws) {f t' n : Int32} {T U : Nat} (hi : hI q T U) (hU : U + 1 < 2000000000) (k0 : ((f = 0 ∨ zaddr f = true) ∧ zaddr t' = true ∧ zwithin n 1 99 = true) → q.1.2.2.2.2.2.2 = false → ∀ w, mS g B (askedT q f t' n) 0 R w → post none w) (k1 : ¬ ((f = 0 ∨ zaddr f = true) ∧ zaddr t' = true ∧ zwithin n 1 99 = true) → ∀ w, mS g B q 1 R w → post none w) (k2 : ((f = 0 ∨ zaddr f = true) ∧ zaddr t' = true ∧ zwithin n 1 99 = true) → q.1.2.2.2.2.2.2 = true → ∀ w, mS g B q 2 R w → post none w) : zC g i_Mo_asked [.ref (B 0), .int f, .int t', .int n] ws post := by
  refine zC.intro (by decide +kernel) rfl (Nat.le_of_ble_eq_true rfl) fun x0 hq => ?_
  obtain ⟨m, F, hr, hs⟩ := h
  by_cases hf0 : f = 0
  · by_cases hg : (f = 0 ∨ zaddr f = true) ∧ zaddr t' = true ∧ zwithin n 1 99 = true
    · cases hdn : q.1.2.2.2.2.2.2
      · refine zo_iload_n (i := i_Mo_asked) (pc := 0) d_Mo_asked_0 rfl ?_
        refine zo_if_eq (i := i_Mo_asked) (pc := 1) (tgt := 12) d_Mo_asked_1 (by decide) (fun h1 => ?_) (fun h1 => False.elim (by first | exact absurd h1 (hf0) | exact absurd (hf0) h1))
        refine zo_aload_n (i := i_Mo_asked) (pc := 12) d_Mo_asked_12 rfl rfl ?_
        refine zo_iload_n (i := i_Mo_asked) (pc := 13) d_Mo_asked_13 rfl ?_
        refine zc_V1 (i := i_Mo_asked) (pc := 14) 10 rfl m_Mo_isAddress (ztb_of k_1056 rfl) (ztb_of k_1058 rfl) s_Mo_isAddress d_Mo_asked_14 (Nat.le_of_ble_eq_true rfl) (Nat.le_of_ble_eq_true rfl) (Nat.le_of_ble_eq_true rfl) (Nat.le_of_ble_eq_true rfl) (hs.get (t := 0) rfl) (c_Mo_isAddress ?_)
        refine zo_if_eq (i := i_Mo_asked) (pc := 17) (tgt := 28) d_Mo_asked_17 (by decide) (fun h17 => False.elim (by first | exact absurd h17 ((by rw [hg.2.1]; decide)) | exact absurd ((by rw [hg.2.1]; decide)) h17)) (fun h17 => ?_)
        refine zo_aload_n (i := i_Mo_asked) (pc := 20) d_Mo_asked_20 rfl rfl ?_
        refine zo_iload_n (i := i_Mo_asked) (pc := 21) d_Mo_asked_21 rfl ?_
        refine zc_V1 (i := i_Mo_asked) (pc := 22) 10 rfl m_Mo_isNumber (ztb_of k_1004 rfl) (ztb_of k_1006 rfl) s_Mo_isNumber d_Mo_asked_22 (Nat.le_of_ble_eq_true rfl) (Nat.le_of_ble_eq_true rfl) (Nat.le_of_ble_eq_true rfl) (Nat.le_of_ble_eq_true rfl) (hs.get (t := 0) rfl) (c_Mo_isNumber ?_)
        refine zo_if_ne (i := i_Mo_asked) (pc := 25) (tgt := 32) d_Mo_asked_25 (by decide) (fun h25 => ?_) (fun h25 => False.elim (by first | exact absurd h25 ((by rw [hg.2.2]; decide)) | exact absurd ((by rw [hg.2.2]; decide)) h25))
        refine zo_iconst (i := i_Mo_asked) (pc := 32) (v := 0) d_Mo_asked_32 (by decide) ?_
        refine zo_istore (i := i_Mo_asked) (pc := 33) d_Mo_asked_33 (Nat.le_of_ble_eq_true rfl) ?_
        refine zo_aload_n (i := i_Mo_asked) (pc := 35) d_Mo_asked_35 rfl rfl ?_
        refine zo_iload (i := i_Mo_asked) (pc := 36) d_Mo_asked_36 rfl ?_
        refine zo_if_eq (i := i_Mo_asked) (pc := 38) (tgt := 45) d_Mo_asked_38 (by decide) (fun h38 => ?_) (fun h38 => False.elim (by first | exact absurd h38 (rfl) | exact absurd (rfl) h38))
        refine zo_aload_n (i := i_Mo_asked) (pc := 45) d_Mo_asked_45 rfl rfl ?_
        refine zo_get (i := i_Mo_asked) (pc := 46) 10 3 rfl zok_Mo (Nat.le_of_ble_eq_true rfl) (ztb_of k_861 rfl) d_Mo_asked_46 (fun _ _ _ h => h) (hs.get (t := 0) rfl) rfl ?_
        refine zo_if_eq (i := i_Mo_asked) (pc := 49) (tgt := 56) d_Mo_asked_49 (by decide) (fun h49 => ?_) (fun h49 => False.elim (by first | exact absurd h49 ((by rw [hr.1.2.2.2.1, hdn]; rfl)) | exact absurd ((by rw [hr.1.2.2.2.1, hdn]; rfl)) h49))
        refine zo_iconst (i := i_Mo_asked) (pc := 56) (v := 0) d_Mo_asked_56 (by decide) ?_
        refine zh_put (i := i_Mo_asked) (pc := 57) 10 0 rfl zok_Mo (Nat.le_of_ble_eq_true rfl) (ztb_of k_858 rfl) rfl d_Mo_asked_57 (fun _ _ _ h => h) (t_Mo_ok 0 (Nat.le_of_ble_eq_true rfl)) rfl rfl hs 0 rfl (Nat.le_of_ble_eq_true rfl) fun ws hs => ?_
        refine zo_aload_n (i := i_Mo_asked) (pc := 60) d_Mo_asked_60 rfl rfl ?_
        refine zo_get (i := i_Mo_asked) (pc := 61) 10 0 rfl zok_Mo (Nat.le_of_ble_eq_true rfl) (ztb_of k_858 rfl) d_Mo_asked_61 (fun _ _ _ h => h) (hs.get (t := 0) rfl) rfl ?_
        refine zo_if_eq (i := i_Mo_asked) (pc := 64) (tgt := 68) d_Mo_asked_64 (by decide) (fun h64 => ?_) (fun h64 => False.elim (by first | exact absurd h64 (rfl) | exact absurd (rfl) h64))
        obtain ⟨m, F, hr, hs⟩ : mS g B q 0 R ws := ⟨_, _, hr.thrown, hs⟩
        obtain ⟨cc, a1, a2, a3, a4, a5, a6, a7, a8, a9, ar⟩ := id hi
        have hn0 : n ≠ 0 := by
          intro h0
          rw [h0] at hg
          exact absurd hg.2.2 (by decide)
        refine zo_aload_n (i := i_Mo_asked) (pc := 68) d_Mo_asked_68 rfl rfl ?_
        refine zo_iload_n (i := i_Mo_asked) (pc := 69) d_Mo_asked_69 rfl ?_
        refine zc_V1 (i := i_Mo_asked) (pc := 70) 10 rfl m_Mo_ownAt (ztb_of k_1044 rfl) (ztb_of k_1046 rfl) s_Mo_ownAt d_Mo_asked_70 (Nat.le_of_ble_eq_true rfl) (Nat.le_of_ble_eq_true rfl) (Nat.le_of_ble_eq_true rfl) (Nat.le_of_ble_eq_true rfl) (hs.get (t := 0) rfl) (l_ownAt ⟨_, _, hr, hs⟩ (fun j x hx hxa hf hset => ?_) (fun hf => ?_))
        · obtain ⟨o13, o14, o15, o16, o17, ho6⟩ := hr.ow hx
          refine zo_istore (i := i_Mo_asked) (pc := 73) d_Mo_asked_73 (Nat.le_of_ble_eq_true rfl) ?_
          refine zo_iload_n (i := i_Mo_asked) (pc := 75) d_Mo_asked_75 rfl ?_
          refine zo_if_ne (i := i_Mo_asked) (pc := 76) (tgt := 104) d_Mo_asked_76 (by decide) (fun h76 => ?_) (fun h76 => ?_)
          · refine zo_aload_n (i := i_Mo_asked) (pc := 104) d_Mo_asked_104 rfl rfl ?_
            refine zo_iload (i := i_Mo_asked) (pc := 105) d_Mo_asked_105 rfl ?_
            refine zc_V1 (i := i_Mo_asked) (pc := 107) 10 rfl m_Mo_usable (ztb_of k_1069 rfl) (ztb_of k_1071 rfl) s_Mo_usable d_Mo_asked_107 (Nat.le_of_ble_eq_true rfl) (Nat.le_of_ble_eq_true rfl) (Nat.le_of_ble_eq_true rfl) (Nat.le_of_ble_eq_true rfl) (hs.get (t := 0) rfl) (l_usable ⟨_, _, hr, hs⟩ hx ?_)
            refine zo_if_eq (i := i_Mo_asked) (pc := 110) (tgt := 141) d_Mo_asked_110 (by decide) (fun h110 => ?_) (fun h110 => ?_)
            · refine zo_return (i := i_Mo_asked) (pc := 141) hq d_Mo_asked_141 rfl (Nat.le_of_ble_eq_true rfl) (Nat.le_of_ble_eq_true rfl) ?_
              have kk := k0 hg hdn ws
              unfold askedT at kk
              rw [hf] at kk
              simp only at kk
              have hu0 := zb_eq h110
              rw [if_neg (by rw [hu0]; decide), if_neg (fun hh => h76 hh.1)] at kk
              exact kk ⟨_, _, hr, hs⟩
            · refine zo_iload_n (i := i_Mo_asked) (pc := 113) d_Mo_asked_113 rfl ?_
              refine zo_if_eq (i := i_Mo_asked) (pc := 114) (tgt := 125) d_Mo_asked_114 (by decide) (fun h114 => False.elim (by first | exact absurd h114 (h76) | exact absurd (h76) h114)) (fun h114 => ?_)
              refine zo_aload_n (i := i_Mo_asked) (pc := 117) d_Mo_asked_117 rfl rfl ?_
              refine zo_iload_n (i := i_Mo_asked) (pc := 118) d_Mo_asked_118 rfl ?_
              refine zo_iload_n (i := i_Mo_asked) (pc := 119) d_Mo_asked_119 rfl ?_
              refine zc_V2 (i := i_Mo_asked) (pc := 120) 10 rfl m_Mo_meet (ztb_of k_1008 rfl) (ztb_of k_1010 rfl) s_Mo_meet d_Mo_asked_120 (Nat.le_of_ble_eq_true rfl) (Nat.le_of_ble_eq_true rfl) (Nat.le_of_ble_eq_true rfl) (Nat.le_of_ble_eq_true rfl) (hs.get (t := 0) rfl) (l_meet (c := cc) ⟨_, _, hr, hs⟩ hn0 a9 (by omega) fun i y ws hix hS => ?_)
              obtain ⟨m, F, hr, hs⟩ := hS
              refine zo_istore (i := i_Mo_asked) (pc := 123) d_Mo_asked_123 (Nat.le_of_ble_eq_true rfl) ?_
              refine zo_aload_n (i := i_Mo_asked) (pc := 125) d_Mo_asked_125 rfl rfl ?_
              refine zo_iconst (i := i_Mo_asked) (pc := 126) (v := 3) d_Mo_asked_126 (by decide) ?_
              refine zo_iload_n (i := i_Mo_asked) (pc := 127) d_Mo_asked_127 rfl ?_
              refine zo_if_ne (i := i_Mo_asked) (pc := 128) (tgt := 136) d_Mo_asked_128 (by decide) (fun h128 => ?_) (fun h128 => False.elim (by first | exact absurd h128 (h76) | exact absurd (h76) h128))
              refine zo_iload_n (i := i_Mo_asked) (pc := 136) d_Mo_asked_136 rfl ?_
              refine zo_iload_n (i := i_Mo_asked) (pc := 137) d_Mo_asked_137 rfl ?_
              refine zc_V3 (i := i_Mo_asked) (pc := 138) 10 rfl m_Mo_out (ztb_of k_854 rfl) (ztb_of k_856 rfl) s_Mo_out d_Mo_asked_138 (Nat.le_of_ble_eq_true rfl) (Nat.le_of_ble_eq_true rfl) (Nat.le_of_ble_eq_true rfl) (Nat.le_of_ble_eq_true rfl) (hs.get (t := 0) rfl) (l_out ⟨_, _, hr, hs⟩ (by have := hU_le (hI_ln (a := f) (n := n) hi (by omega)); omega) fun ws hS => ?_)
              refine zo_return (i := i_Mo_asked) (pc := 141) hq d_Mo_asked_141 rfl (Nat.le_of_ble_eq_true rfl) (Nat.le_of_ble_eq_true rfl) ?_
              have kk := k0 hg hdn ws
              unfold askedT at kk
              rw [hf] at kk
              simp only at kk
              have hu1 := zb_ne h110
              rw [if_pos hu1, if_neg h76, if_neg h76] at kk
              exact kk hS
          · refine zo_iload (i := i_Mo_asked) (pc := 79) d_Mo_asked_79 rfl ?_
            refine zo_if_lt (i := i_Mo_asked) (pc := 81) (tgt := 104) d_Mo_asked_81 (by decide) (fun h81 => False.elim (by first | exact absurd h81 ((nI_pos (by omega))) | exact absurd ((nI_pos (by omega))) h81)) (fun h81 => ?_)
            refine zo_aload_n (i := i_Mo_asked) (pc := 84) d_Mo_asked_84 rfl rfl ?_
            refine zo_get (i := i_Mo_asked) (pc := 85) 10 14 rfl zok_Mo (Nat.le_of_ble_eq_true rfl) (ztb_of k_872 rfl) d_Mo_asked_85 (fun _ _ _ h => h) (hs.get (t := 0) rfl) rfl ?_
            refine zo_iload (i := i_Mo_asked) (pc := 88) d_Mo_asked_88 rfl ?_
            refine zo_iaload (i := i_Mo_asked) (pc := 90) d_Mo_asked_90 (hs.get (t := 5) rfl) (vp_in_nI (by omega) (by decide)) ?_
            refine zo_iconst (i := i_Mo_asked) (pc := 91) (v := 1) d_Mo_asked_91 (by decide) ?_
            refine zo_icmp_ne (i := i_Mo_asked) (pc := 92) (tgt := 104) d_Mo_asked_92 (by decide) (fun h92 => ?_) (fun h92 => ?_)
            · refine zo_aload_n (i := i_Mo_asked) (pc := 104) d_Mo_asked_104 rfl rfl ?_
              refine zo_iload (i := i_Mo_asked) (pc := 105) d_Mo_asked_105 rfl ?_
              refine zc_V1 (i := i_Mo_asked) (pc := 107) 10 rfl m_Mo_usable (ztb_of k_1069 rfl) (ztb_of k_1071 rfl) s_Mo_usable d_Mo_asked_107 (Nat.le_of_ble_eq_true rfl) (Nat.le_of_ble_eq_true rfl) (Nat.le_of_ble_eq_true rfl) (Nat.le_of_ble_eq_true rfl) (hs.get (t := 0) rfl) (l_usable ⟨_, _, hr, hs⟩ hx ?_)
              refine zo_if_eq (i := i_Mo_asked) (pc := 110) (tgt := 141) d_Mo_asked_110 (by decide) (fun h110 => ?_) (fun h110 => ?_)
              · refine zo_return (i := i_Mo_asked) (pc := 141) hq d_Mo_asked_141 rfl (Nat.le_of_ble_eq_true rfl) (Nat.le_of_ble_eq_true rfl) ?_
                rw [o14] at h92
                have kk := k0 hg hdn ws
                unfold askedT at kk
                rw [hf] at kk
                simp only at kk
                have hu0 := zb_eq h110
                rw [if_neg (by rw [hu0]; decide), if_neg (fun hh => h92 hh.2)] at kk
                exact kk ⟨_, _, hr, hs⟩
              · refine zo_iload_n (i := i_Mo_asked) (pc := 113) d_Mo_asked_113 rfl ?_
                refine zo_if_eq (i := i_Mo_asked) (pc := 114) (tgt := 125) d_Mo_asked_114 (by decide) (fun h114 => ?_) (fun h114 => False.elim (by first | exact absurd h114 (h76) | exact absurd (h76) h114))
                refine zo_aload_n (i := i_Mo_asked) (pc := 125) d_Mo_asked_125 rfl rfl ?_
                refine zo_iconst (i := i_Mo_asked) (pc := 126) (v := 3) d_Mo_asked_126 (by decide) ?_
                refine zo_iload_n (i := i_Mo_asked) (pc := 127) d_Mo_asked_127 rfl ?_
                refine zo_if_ne (i := i_Mo_asked) (pc := 128) (tgt := 136) d_Mo_asked_128 (by decide) (fun h128 => False.elim (by first | exact absurd h128 (h76) | exact absurd (h76) h128)) (fun h128 => ?_)
                refine zo_ldc (i := i_Mo_asked) (pc := 131) d_Mo_asked_131 (ztb_of k_853 rfl) ?_
                refine zo_goto (i := i_Mo_asked) (pc := 133) (tgt := 137) d_Mo_asked_133 (by decide) ?_
                refine zo_iload_n (i := i_Mo_asked) (pc := 137) d_Mo_asked_137 rfl ?_
                refine zc_V3 (i := i_Mo_asked) (pc := 138) 10 rfl m_Mo_out (ztb_of k_854 rfl) (ztb_of k_856 rfl) s_Mo_out d_Mo_asked_138 (Nat.le_of_ble_eq_true rfl) (Nat.le_of_ble_eq_true rfl) (Nat.le_of_ble_eq_true rfl) (Nat.le_of_ble_eq_true rfl) (hs.get (t := 0) rfl) (l_out ⟨_, _, hr, hs⟩ (by omega) fun ws hS => ?_)
                refine zo_return (i := i_Mo_asked) (pc := 141) hq d_Mo_asked_141 rfl (Nat.le_of_ble_eq_true rfl) (Nat.le_of_ble_eq_true rfl) ?_
                have kk := k0 hg hdn ws
                unfold askedT at kk
                rw [hf] at kk
                simp only at kk
                have hu1 := zb_ne h110
                rw [if_pos hu1, if_pos h76, if_pos h76] at kk
                exact kk hS
            · refine zo_aload_n (i := i_Mo_asked) (pc := 95) d_Mo_asked_95 rfl rfl ?_
              refine zo_iload (i := i_Mo_asked) (pc := 96) d_Mo_asked_96 rfl ?_
              refine zc_V1 (i := i_Mo_asked) (pc := 98) 10 rfl m_Mo_contradict (ztb_of k_1061 rfl) (ztb_of k_1063 rfl) s_Mo_contradict d_Mo_asked_98 (Nat.le_of_ble_eq_true rfl) (Nat.le_of_ble_eq_true rfl) (Nat.le_of_ble_eq_true rfl) (Nat.le_of_ble_eq_true rfl) (hs.get (t := 0) rfl) (l_contradict ⟨_, _, hr, hs⟩ hx fun ws hS => ?_)
              refine zo_goto (i := i_Mo_asked) (pc := 101) (tgt := 141) d_Mo_asked_101 (by decide) ?_
              refine zo_return (i := i_Mo_asked) (pc := 141) hq d_Mo_asked_141 rfl (Nat.le_of_ble_eq_true rfl) (Nat.le_of_ble_eq_true rfl) ?_
              have kk := k0 hg hdn ws
              unfold askedT at kk
              rw [hf] at kk
              simp only at kk
              rw [o14] at h92
              rw [if_neg (by rw [h92]; decide), if_pos ⟨h76, h92⟩] at kk
              unfold dupT at kk
              rw [hset] at kk
              exact kk hS
        · refine zo_istore (i := i_Mo_asked) (pc := 73) d_Mo_asked_73 (Nat.le_of_ble_eq_true rfl) ?_
          refine zo_iload_n (i := i_Mo_asked) (pc := 75) d_Mo_asked_75 rfl ?_
          refine zo_if_ne (i := i_Mo_asked) (pc := 76) (tgt := 104) d_Mo_asked_76 (by decide) (fun h76 => ?_) (fun h76 => ?_)
          · refine zo_aload_n (i := i_Mo_asked) (pc := 104) d_Mo_asked_104 rfl rfl ?_
            refine zo_iload (i := i_Mo_asked) (pc := 105) d_Mo_asked_105 rfl ?_
            refine zc_V1 (i := i_Mo_asked) (pc := 107) 10 rfl m_Mo_usable (ztb_of k_1069 rfl) (ztb_of k_1071 rfl) s_Mo_usable d_Mo_asked_107 (Nat.le_of_ble_eq_true rfl) (Nat.le_of_ble_eq_true rfl) (Nat.le_of_ble_eq_true rfl) (Nat.le_of_ble_eq_true rfl) (hs.get (t := 0) rfl) (c_Mo_usableN (by decide) ?_)
            refine zo_if_eq (i := i_Mo_asked) (pc := 110) (tgt := 141) d_Mo_asked_110 (by decide) (fun h110 => ?_) (fun h110 => False.elim (by first | exact absurd h110 (rfl) | exact absurd (rfl) h110))
            refine zo_return (i := i_Mo_asked) (pc := 141) hq d_Mo_asked_141 rfl (Nat.le_of_ble_eq_true rfl) (Nat.le_of_ble_eq_true rfl) ?_
            have kk := k0 hg hdn ws
            unfold askedT at kk
            rw [hf] at kk
            simp only at kk
            exact kk ⟨_, _, hr, hs⟩
          · refine zo_iload (i := i_Mo_asked) (pc := 79) d_Mo_asked_79 rfl ?_
            refine zo_if_lt (i := i_Mo_asked) (pc := 81) (tgt := 104) d_Mo_asked_81 (by decide) (fun h81 => ?_) (fun h81 => False.elim (by first | exact absurd h81 ((by decide)) | exact absurd ((by decide)) h81))
            refine zo_aload_n (i := i_Mo_asked) (pc := 104) d_Mo_asked_104 rfl rfl ?_
            refine zo_iload (i := i_Mo_asked) (pc := 105) d_Mo_asked_105 rfl ?_
            refine zc_V1 (i := i_Mo_asked) (pc := 107) 10 rfl m_Mo_usable (ztb_of k_1069 rfl) (ztb_of k_1071 rfl) s_Mo_usable d_Mo_asked_107 (Nat.le_of_ble_eq_true rfl) (Nat.le_of_ble_eq_true rfl) (Nat.le_of_ble_eq_true rfl) (Nat.le_of_ble_eq_true rfl) (hs.get (t := 0) rfl) (c_Mo_usableN (by decide) ?_)
            refine zo_if_eq (i := i_Mo_asked) (pc := 110) (tgt := 141) d_Mo_asked_110 (by decide) (fun h110 => ?_) (fun h110 => False.elim (by first | exact absurd h110 (rfl) | exact absurd (rfl) h110))
            refine zo_return (i := i_Mo_asked) (pc := 141) hq d_Mo_asked_141 rfl (Nat.le_of_ble_eq_true rfl) (Nat.le_of_ble_eq_true rfl) ?_
            have kk := k0 hg hdn ws
            unfold askedT at kk
            rw [hf] at kk
            simp only at kk
            exact kk ⟨_, _, hr, hs⟩
      · refine zo_iload_n (i := i_Mo_asked) (pc := 0) d_Mo_asked_0 rfl ?_
        refine zo_if_eq (i := i_Mo_asked) (pc := 1) (tgt := 12) d_Mo_asked_1 (by decide) (fun h1 => ?_) (fun h1 => False.elim (by first | exact absurd h1 (hf0) | exact absurd (hf0) h1))
        refine zo_aload_n (i := i_Mo_asked) (pc := 12) d_Mo_asked_12 rfl rfl ?_
        refine zo_iload_n (i := i_Mo_asked) (pc := 13) d_Mo_asked_13 rfl ?_
        refine zc_V1 (i := i_Mo_asked) (pc := 14) 10 rfl m_Mo_isAddress (ztb_of k_1056 rfl) (ztb_of k_1058 rfl) s_Mo_isAddress d_Mo_asked_14 (Nat.le_of_ble_eq_true rfl) (Nat.le_of_ble_eq_true rfl) (Nat.le_of_ble_eq_true rfl) (Nat.le_of_ble_eq_true rfl) (hs.get (t := 0) rfl) (c_Mo_isAddress ?_)
        refine zo_if_eq (i := i_Mo_asked) (pc := 17) (tgt := 28) d_Mo_asked_17 (by decide) (fun h17 => False.elim (by first | exact absurd h17 ((by rw [hg.2.1]; decide)) | exact absurd ((by rw [hg.2.1]; decide)) h17)) (fun h17 => ?_)
        refine zo_aload_n (i := i_Mo_asked) (pc := 20) d_Mo_asked_20 rfl rfl ?_
        refine zo_iload_n (i := i_Mo_asked) (pc := 21) d_Mo_asked_21 rfl ?_
        refine zc_V1 (i := i_Mo_asked) (pc := 22) 10 rfl m_Mo_isNumber (ztb_of k_1004 rfl) (ztb_of k_1006 rfl) s_Mo_isNumber d_Mo_asked_22 (Nat.le_of_ble_eq_true rfl) (Nat.le_of_ble_eq_true rfl) (Nat.le_of_ble_eq_true rfl) (Nat.le_of_ble_eq_true rfl) (hs.get (t := 0) rfl) (c_Mo_isNumber ?_)
        refine zo_if_ne (i := i_Mo_asked) (pc := 25) (tgt := 32) d_Mo_asked_25 (by decide) (fun h25 => ?_) (fun h25 => False.elim (by first | exact absurd h25 ((by rw [hg.2.2]; decide)) | exact absurd ((by rw [hg.2.2]; decide)) h25))
        refine zo_iconst (i := i_Mo_asked) (pc := 32) (v := 0) d_Mo_asked_32 (by decide) ?_
        refine zo_istore (i := i_Mo_asked) (pc := 33) d_Mo_asked_33 (Nat.le_of_ble_eq_true rfl) ?_
        refine zo_aload_n (i := i_Mo_asked) (pc := 35) d_Mo_asked_35 rfl rfl ?_
        refine zo_iload (i := i_Mo_asked) (pc := 36) d_Mo_asked_36 rfl ?_
        refine zo_if_eq (i := i_Mo_asked) (pc := 38) (tgt := 45) d_Mo_asked_38 (by decide) (fun h38 => ?_) (fun h38 => False.elim (by first | exact absurd h38 (rfl) | exact absurd (rfl) h38))
        refine zo_aload_n (i := i_Mo_asked) (pc := 45) d_Mo_asked_45 rfl rfl ?_
        refine zo_get (i := i_Mo_asked) (pc := 46) 10 3 rfl zok_Mo (Nat.le_of_ble_eq_true rfl) (ztb_of k_861 rfl) d_Mo_asked_46 (fun _ _ _ h => h) (hs.get (t := 0) rfl) rfl ?_
        refine zo_if_eq (i := i_Mo_asked) (pc := 49) (tgt := 56) d_Mo_asked_49 (by decide) (fun h49 => False.elim (by first | exact absurd h49 ((by rw [hr.1.2.2.2.1, hdn]; decide)) | exact absurd ((by rw [hr.1.2.2.2.1, hdn]; decide)) h49)) (fun h49 => ?_)
        refine zo_iconst (i := i_Mo_asked) (pc := 52) (v := 2) d_Mo_asked_52 (by decide) ?_
        refine zo_goto (i := i_Mo_asked) (pc := 53) (tgt := 57) d_Mo_asked_53 (by decide) ?_
        refine zh_put (i := i_Mo_asked) (pc := 57) 10 0 rfl zok_Mo (Nat.le_of_ble_eq_true rfl) (ztb_of k_858 rfl) rfl d_Mo_asked_57 (fun _ _ _ h => h) (t_Mo_ok 0 (Nat.le_of_ble_eq_true rfl)) rfl rfl hs 0 rfl (Nat.le_of_ble_eq_true rfl) fun ws hs => ?_
        refine zo_aload_n (i := i_Mo_asked) (pc := 60) d_Mo_asked_60 rfl rfl ?_
        refine zo_get (i := i_Mo_asked) (pc := 61) 10 0 rfl zok_Mo (Nat.le_of_ble_eq_true rfl) (ztb_of k_858 rfl) d_Mo_asked_61 (fun _ _ _ h => h) (hs.get (t := 0) rfl) rfl ?_
        refine zo_if_eq (i := i_Mo_asked) (pc := 64) (tgt := 68) d_Mo_asked_64 (by decide) (fun h64 => False.elim (by first | exact absurd h64 ((by decide)) | exact absurd ((by decide)) h64)) (fun h64 => ?_)
        refine zo_return (i := i_Mo_asked) (pc := 67) hq d_Mo_asked_67 rfl (Nat.le_of_ble_eq_true rfl) (Nat.le_of_ble_eq_true rfl) ?_
        exact k2 hg hdn ws ⟨_, _, hr.thrown, hs⟩
    · refine zo_iload_n (i := i_Mo_asked) (pc := 0) d_Mo_asked_0 rfl ?_
      refine zo_if_eq (i := i_Mo_asked) (pc := 1) (tgt := 12) d_Mo_asked_1 (by decide) (fun h1 => ?_) (fun h1 => False.elim (by first | exact absurd h1 (hf0) | exact absurd (hf0) h1))
      refine zo_aload_n (i := i_Mo_asked) (pc := 12) d_Mo_asked_12 rfl rfl ?_
      refine zo_iload_n (i := i_Mo_asked) (pc := 13) d_Mo_asked_13 rfl ?_
      refine zc_V1 (i := i_Mo_asked) (pc := 14) 10 rfl m_Mo_isAddress (ztb_of k_1056 rfl) (ztb_of k_1058 rfl) s_Mo_isAddress d_Mo_asked_14 (Nat.le_of_ble_eq_true rfl) (Nat.le_of_ble_eq_true rfl) (Nat.le_of_ble_eq_true rfl) (Nat.le_of_ble_eq_true rfl) (hs.get (t := 0) rfl) (c_Mo_isAddress ?_)
      refine zo_if_eq (i := i_Mo_asked) (pc := 17) (tgt := 28) d_Mo_asked_17 (by decide) (fun h17 => ?_) (fun h17 => ?_)
      · refine zo_iconst (i := i_Mo_asked) (pc := 28) (v := 1) d_Mo_asked_28 (by decide) ?_
        refine zo_goto (i := i_Mo_asked) (pc := 29) (tgt := 33) d_Mo_asked_29 (by decide) ?_
        refine zo_istore (i := i_Mo_asked) (pc := 33) d_Mo_asked_33 (Nat.le_of_ble_eq_true rfl) ?_
        refine zo_aload_n (i := i_Mo_asked) (pc := 35) d_Mo_asked_35 rfl rfl ?_
        refine zo_iload (i := i_Mo_asked) (pc := 36) d_Mo_asked_36 rfl ?_
        refine zo_if_eq (i := i_Mo_asked) (pc := 38) (tgt := 45) d_Mo_asked_38 (by decide) (fun h38 => False.elim (by first | exact absurd h38 ((by decide)) | exact absurd ((by decide)) h38)) (fun h38 => ?_)
        refine zo_iconst (i := i_Mo_asked) (pc := 41) (v := 1) d_Mo_asked_41 (by decide) ?_
        refine zo_goto (i := i_Mo_asked) (pc := 42) (tgt := 57) d_Mo_asked_42 (by decide) ?_
        refine zh_put (i := i_Mo_asked) (pc := 57) 10 0 rfl zok_Mo (Nat.le_of_ble_eq_true rfl) (ztb_of k_858 rfl) rfl d_Mo_asked_57 (fun _ _ _ h => h) (t_Mo_ok 0 (Nat.le_of_ble_eq_true rfl)) rfl rfl hs 0 rfl (Nat.le_of_ble_eq_true rfl) fun ws hs => ?_
        refine zo_aload_n (i := i_Mo_asked) (pc := 60) d_Mo_asked_60 rfl rfl ?_
        refine zo_get (i := i_Mo_asked) (pc := 61) 10 0 rfl zok_Mo (Nat.le_of_ble_eq_true rfl) (ztb_of k_858 rfl) d_Mo_asked_61 (fun _ _ _ h => h) (hs.get (t := 0) rfl) rfl ?_
        refine zo_if_eq (i := i_Mo_asked) (pc := 64) (tgt := 68) d_Mo_asked_64 (by decide) (fun h64 => False.elim (by first | exact absurd h64 ((by decide)) | exact absurd ((by decide)) h64)) (fun h64 => ?_)
        refine zo_return (i := i_Mo_asked) (pc := 67) hq d_Mo_asked_67 rfl (Nat.le_of_ble_eq_true rfl) (Nat.le_of_ble_eq_true rfl) ?_
        exact k1 hg ws ⟨_, _, hr.thrown, hs⟩
      · refine zo_aload_n (i := i_Mo_asked) (pc := 20) d_Mo_asked_20 rfl rfl ?_
        refine zo_iload_n (i := i_Mo_asked) (pc := 21) d_Mo_asked_21 rfl ?_
        refine zc_V1 (i := i_Mo_asked) (pc := 22) 10 rfl m_Mo_isNumber (ztb_of k_1004 rfl) (ztb_of k_1006 rfl) s_Mo_isNumber d_Mo_asked_22 (Nat.le_of_ble_eq_true rfl) (Nat.le_of_ble_eq_true rfl) (Nat.le_of_ble_eq_true rfl) (Nat.le_of_ble_eq_true rfl) (hs.get (t := 0) rfl) (c_Mo_isNumber ?_)
        refine zo_if_ne (i := i_Mo_asked) (pc := 25) (tgt := 32) d_Mo_asked_25 (by decide) (fun h25 => False.elim (by first | exact absurd h25 ((zb_no (fun hz => hg ⟨.inl hf0, zb_ne h17, hz⟩))) | exact absurd ((zb_no (fun hz => hg ⟨.inl hf0, zb_ne h17, hz⟩))) h25)) (fun h25 => ?_)
        refine zo_iconst (i := i_Mo_asked) (pc := 28) (v := 1) d_Mo_asked_28 (by decide) ?_
        refine zo_goto (i := i_Mo_asked) (pc := 29) (tgt := 33) d_Mo_asked_29 (by decide) ?_
        refine zo_istore (i := i_Mo_asked) (pc := 33) d_Mo_asked_33 (Nat.le_of_ble_eq_true rfl) ?_
        refine zo_aload_n (i := i_Mo_asked) (pc := 35) d_Mo_asked_35 rfl rfl ?_
        refine zo_iload (i := i_Mo_asked) (pc := 36) d_Mo_asked_36 rfl ?_
        refine zo_if_eq (i := i_Mo_asked) (pc := 38) (tgt := 45) d_Mo_asked_38 (by decide) (fun h38 => False.elim (by first | exact absurd h38 ((by decide)) | exact absurd ((by decide)) h38)) (fun h38 => ?_)
        refine zo_iconst (i := i_Mo_asked) (pc := 41) (v := 1) d_Mo_asked_41 (by decide) ?_
        refine zo_goto (i := i_Mo_asked) (pc := 42) (tgt := 57) d_Mo_asked_42 (by decide) ?_
        refine zh_put (i := i_Mo_asked) (pc := 57) 10 0 rfl zok_Mo (Nat.le_of_ble_eq_true rfl) (ztb_of k_858 rfl) rfl d_Mo_asked_57 (fun _ _ _ h => h) (t_Mo_ok 0 (Nat.le_of_ble_eq_true rfl)) rfl rfl hs 0 rfl (Nat.le_of_ble_eq_true rfl) fun ws hs => ?_
        refine zo_aload_n (i := i_Mo_asked) (pc := 60) d_Mo_asked_60 rfl rfl ?_
        refine zo_get (i := i_Mo_asked) (pc := 61) 10 0 rfl zok_Mo (Nat.le_of_ble_eq_true rfl) (ztb_of k_858 rfl) d_Mo_asked_61 (fun _ _ _ h => h) (hs.get (t := 0) rfl) rfl ?_
        refine zo_if_eq (i := i_Mo_asked) (pc := 64) (tgt := 68) d_Mo_asked_64 (by decide) (fun h64 => False.elim (by first | exact absurd h64 ((by decide)) | exact absurd ((by decide)) h64)) (fun h64 => ?_)
        refine zo_return (i := i_Mo_asked) (pc := 67) hq d_Mo_asked_67 rfl (Nat.le_of_ble_eq_true rfl) (Nat.le_of_ble_eq_true rfl) ?_
        exact k1 hg ws ⟨_, _, hr.thrown, hs⟩
  · by_cases hg : (f = 0 ∨ zaddr f = true) ∧ zaddr t' = true ∧ zwithin n 1 99 = true
    · cases hdn : q.1.2.2.2.2.2.2
      · refine zo_iload_n (i := i_Mo_asked) (pc := 0) d_Mo_asked_0 rfl ?_
        refine zo_if_eq (i := i_Mo_asked) (pc := 1) (tgt := 12) d_Mo_asked_1 (by decide) (fun h1 => False.elim (by first | exact absurd h1 (hf0) | exact absurd (hf0) h1)) (fun h1 => ?_)
        refine zo_aload_n (i := i_Mo_asked) (pc := 4) d_Mo_asked_4 rfl rfl ?_
        refine zo_iload_n (i := i_Mo_asked) (pc := 5) d_Mo_asked_5 rfl ?_
        refine zc_V1 (i := i_Mo_asked) (pc := 6) 10 rfl m_Mo_isAddress (ztb_of k_1056 rfl) (ztb_of k_1058 rfl) s_Mo_isAddress d_Mo_asked_6 (Nat.le_of_ble_eq_true rfl) (Nat.le_of_ble_eq_true rfl) (Nat.le_of_ble_eq_true rfl) (Nat.le_of_ble_eq_true rfl) (hs.get (t := 0) rfl) (c_Mo_isAddress ?_)
        refine zo_if_eq (i := i_Mo_asked) (pc := 9) (tgt := 28) d_Mo_asked_9 (by decide) (fun h9 => False.elim (by first | exact absurd h9 ((by rw [hg.1.resolve_left hf0]; decide)) | exact absurd ((by rw [hg.1.resolve_left hf0]; decide)) h9)) (fun h9 => ?_)
        refine zo_aload_n (i := i_Mo_asked) (pc := 12) d_Mo_asked_12 rfl rfl ?_
        refine zo_iload_n (i := i_Mo_asked) (pc := 13) d_Mo_asked_13 rfl ?_
        refine zc_V1 (i := i_Mo_asked) (pc := 14) 10 rfl m_Mo_isAddress (ztb_of k_1056 rfl) (ztb_of k_1058 rfl) s_Mo_isAddress d_Mo_asked_14 (Nat.le_of_ble_eq_true rfl) (Nat.le_of_ble_eq_true rfl) (Nat.le_of_ble_eq_true rfl) (Nat.le_of_ble_eq_true rfl) (hs.get (t := 0) rfl) (c_Mo_isAddress ?_)
        refine zo_if_eq (i := i_Mo_asked) (pc := 17) (tgt := 28) d_Mo_asked_17 (by decide) (fun h17 => False.elim (by first | exact absurd h17 ((by rw [hg.2.1]; decide)) | exact absurd ((by rw [hg.2.1]; decide)) h17)) (fun h17 => ?_)
        refine zo_aload_n (i := i_Mo_asked) (pc := 20) d_Mo_asked_20 rfl rfl ?_
        refine zo_iload_n (i := i_Mo_asked) (pc := 21) d_Mo_asked_21 rfl ?_
        refine zc_V1 (i := i_Mo_asked) (pc := 22) 10 rfl m_Mo_isNumber (ztb_of k_1004 rfl) (ztb_of k_1006 rfl) s_Mo_isNumber d_Mo_asked_22 (Nat.le_of_ble_eq_true rfl) (Nat.le_of_ble_eq_true rfl) (Nat.le_of_ble_eq_true rfl) (Nat.le_of_ble_eq_true rfl) (hs.get (t := 0) rfl) (c_Mo_isNumber ?_)
        refine zo_if_ne (i := i_Mo_asked) (pc := 25) (tgt := 32) d_Mo_asked_25 (by decide) (fun h25 => ?_) (fun h25 => False.elim (by first | exact absurd h25 ((by rw [hg.2.2]; decide)) | exact absurd ((by rw [hg.2.2]; decide)) h25))
        refine zo_iconst (i := i_Mo_asked) (pc := 32) (v := 0) d_Mo_asked_32 (by decide) ?_
        refine zo_istore (i := i_Mo_asked) (pc := 33) d_Mo_asked_33 (Nat.le_of_ble_eq_true rfl) ?_
        refine zo_aload_n (i := i_Mo_asked) (pc := 35) d_Mo_asked_35 rfl rfl ?_
        refine zo_iload (i := i_Mo_asked) (pc := 36) d_Mo_asked_36 rfl ?_
        refine zo_if_eq (i := i_Mo_asked) (pc := 38) (tgt := 45) d_Mo_asked_38 (by decide) (fun h38 => ?_) (fun h38 => False.elim (by first | exact absurd h38 (rfl) | exact absurd (rfl) h38))
        refine zo_aload_n (i := i_Mo_asked) (pc := 45) d_Mo_asked_45 rfl rfl ?_
        refine zo_get (i := i_Mo_asked) (pc := 46) 10 3 rfl zok_Mo (Nat.le_of_ble_eq_true rfl) (ztb_of k_861 rfl) d_Mo_asked_46 (fun _ _ _ h => h) (hs.get (t := 0) rfl) rfl ?_
        refine zo_if_eq (i := i_Mo_asked) (pc := 49) (tgt := 56) d_Mo_asked_49 (by decide) (fun h49 => ?_) (fun h49 => False.elim (by first | exact absurd h49 ((by rw [hr.1.2.2.2.1, hdn]; rfl)) | exact absurd ((by rw [hr.1.2.2.2.1, hdn]; rfl)) h49))
        refine zo_iconst (i := i_Mo_asked) (pc := 56) (v := 0) d_Mo_asked_56 (by decide) ?_
        refine zh_put (i := i_Mo_asked) (pc := 57) 10 0 rfl zok_Mo (Nat.le_of_ble_eq_true rfl) (ztb_of k_858 rfl) rfl d_Mo_asked_57 (fun _ _ _ h => h) (t_Mo_ok 0 (Nat.le_of_ble_eq_true rfl)) rfl rfl hs 0 rfl (Nat.le_of_ble_eq_true rfl) fun ws hs => ?_
        refine zo_aload_n (i := i_Mo_asked) (pc := 60) d_Mo_asked_60 rfl rfl ?_
        refine zo_get (i := i_Mo_asked) (pc := 61) 10 0 rfl zok_Mo (Nat.le_of_ble_eq_true rfl) (ztb_of k_858 rfl) d_Mo_asked_61 (fun _ _ _ h => h) (hs.get (t := 0) rfl) rfl ?_
        refine zo_if_eq (i := i_Mo_asked) (pc := 64) (tgt := 68) d_Mo_asked_64 (by decide) (fun h64 => ?_) (fun h64 => False.elim (by first | exact absurd h64 (rfl) | exact absurd (rfl) h64))
        obtain ⟨m, F, hr, hs⟩ : mS g B q 0 R ws := ⟨_, _, hr.thrown, hs⟩
        obtain ⟨cc, a1, a2, a3, a4, a5, a6, a7, a8, a9, ar⟩ := id hi
        have hn0 : n ≠ 0 := by
          intro h0
          rw [h0] at hg
          exact absurd hg.2.2 (by decide)
        refine zo_aload_n (i := i_Mo_asked) (pc := 68) d_Mo_asked_68 rfl rfl ?_
        refine zo_iload_n (i := i_Mo_asked) (pc := 69) d_Mo_asked_69 rfl ?_
        refine zc_V1 (i := i_Mo_asked) (pc := 70) 10 rfl m_Mo_ownAt (ztb_of k_1044 rfl) (ztb_of k_1046 rfl) s_Mo_ownAt d_Mo_asked_70 (Nat.le_of_ble_eq_true rfl) (Nat.le_of_ble_eq_true rfl) (Nat.le_of_ble_eq_true rfl) (Nat.le_of_ble_eq_true rfl) (hs.get (t := 0) rfl) (l_ownAt ⟨_, _, hr, hs⟩ (fun j x hx hxa hf hset => ?_) (fun hf => ?_))
        · obtain ⟨o13, o14, o15, o16, o17, ho6⟩ := hr.ow hx
          refine zo_istore (i := i_Mo_asked) (pc := 73) d_Mo_asked_73 (Nat.le_of_ble_eq_true rfl) ?_
          refine zo_iload_n (i := i_Mo_asked) (pc := 75) d_Mo_asked_75 rfl ?_
          refine zo_if_ne (i := i_Mo_asked) (pc := 76) (tgt := 104) d_Mo_asked_76 (by decide) (fun h76 => ?_) (fun h76 => ?_)
          · refine zo_aload_n (i := i_Mo_asked) (pc := 104) d_Mo_asked_104 rfl rfl ?_
            refine zo_iload (i := i_Mo_asked) (pc := 105) d_Mo_asked_105 rfl ?_
            refine zc_V1 (i := i_Mo_asked) (pc := 107) 10 rfl m_Mo_usable (ztb_of k_1069 rfl) (ztb_of k_1071 rfl) s_Mo_usable d_Mo_asked_107 (Nat.le_of_ble_eq_true rfl) (Nat.le_of_ble_eq_true rfl) (Nat.le_of_ble_eq_true rfl) (Nat.le_of_ble_eq_true rfl) (hs.get (t := 0) rfl) (l_usable ⟨_, _, hr, hs⟩ hx ?_)
            refine zo_if_eq (i := i_Mo_asked) (pc := 110) (tgt := 141) d_Mo_asked_110 (by decide) (fun h110 => ?_) (fun h110 => ?_)
            · refine zo_return (i := i_Mo_asked) (pc := 141) hq d_Mo_asked_141 rfl (Nat.le_of_ble_eq_true rfl) (Nat.le_of_ble_eq_true rfl) ?_
              have kk := k0 hg hdn ws
              unfold askedT at kk
              rw [hf] at kk
              simp only at kk
              have hu0 := zb_eq h110
              rw [if_neg (by rw [hu0]; decide), if_neg (fun hh => h76 hh.1)] at kk
              exact kk ⟨_, _, hr, hs⟩
            · refine zo_iload_n (i := i_Mo_asked) (pc := 113) d_Mo_asked_113 rfl ?_
              refine zo_if_eq (i := i_Mo_asked) (pc := 114) (tgt := 125) d_Mo_asked_114 (by decide) (fun h114 => False.elim (by first | exact absurd h114 (h76) | exact absurd (h76) h114)) (fun h114 => ?_)
              refine zo_aload_n (i := i_Mo_asked) (pc := 117) d_Mo_asked_117 rfl rfl ?_
              refine zo_iload_n (i := i_Mo_asked) (pc := 118) d_Mo_asked_118 rfl ?_
              refine zo_iload_n (i := i_Mo_asked) (pc := 119) d_Mo_asked_119 rfl ?_
              refine zc_V2 (i := i_Mo_asked) (pc := 120) 10 rfl m_Mo_meet (ztb_of k_1008 rfl) (ztb_of k_1010 rfl) s_Mo_meet d_Mo_asked_120 (Nat.le_of_ble_eq_true rfl) (Nat.le_of_ble_eq_true rfl) (Nat.le_of_ble_eq_true rfl) (Nat.le_of_ble_eq_true rfl) (hs.get (t := 0) rfl) (l_meet (c := cc) ⟨_, _, hr, hs⟩ hn0 a9 (by omega) fun i y ws hix hS => ?_)
              obtain ⟨m, F, hr, hs⟩ := hS
              refine zo_istore (i := i_Mo_asked) (pc := 123) d_Mo_asked_123 (Nat.le_of_ble_eq_true rfl) ?_
              refine zo_aload_n (i := i_Mo_asked) (pc := 125) d_Mo_asked_125 rfl rfl ?_
              refine zo_iconst (i := i_Mo_asked) (pc := 126) (v := 3) d_Mo_asked_126 (by decide) ?_
              refine zo_iload_n (i := i_Mo_asked) (pc := 127) d_Mo_asked_127 rfl ?_
              refine zo_if_ne (i := i_Mo_asked) (pc := 128) (tgt := 136) d_Mo_asked_128 (by decide) (fun h128 => ?_) (fun h128 => False.elim (by first | exact absurd h128 (h76) | exact absurd (h76) h128))
              refine zo_iload_n (i := i_Mo_asked) (pc := 136) d_Mo_asked_136 rfl ?_
              refine zo_iload_n (i := i_Mo_asked) (pc := 137) d_Mo_asked_137 rfl ?_
              refine zc_V3 (i := i_Mo_asked) (pc := 138) 10 rfl m_Mo_out (ztb_of k_854 rfl) (ztb_of k_856 rfl) s_Mo_out d_Mo_asked_138 (Nat.le_of_ble_eq_true rfl) (Nat.le_of_ble_eq_true rfl) (Nat.le_of_ble_eq_true rfl) (Nat.le_of_ble_eq_true rfl) (hs.get (t := 0) rfl) (l_out ⟨_, _, hr, hs⟩ (by have := hU_le (hI_ln (a := f) (n := n) hi (by omega)); omega) fun ws hS => ?_)
              refine zo_return (i := i_Mo_asked) (pc := 141) hq d_Mo_asked_141 rfl (Nat.le_of_ble_eq_true rfl) (Nat.le_of_ble_eq_true rfl) ?_
              have kk := k0 hg hdn ws
              unfold askedT at kk
              rw [hf] at kk
              simp only at kk
              have hu1 := zb_ne h110
              rw [if_pos hu1, if_neg h76, if_neg h76] at kk
              exact kk hS
          · refine zo_iload (i := i_Mo_asked) (pc := 79) d_Mo_asked_79 rfl ?_
            refine zo_if_lt (i := i_Mo_asked) (pc := 81) (tgt := 104) d_Mo_asked_81 (by decide) (fun h81 => False.elim (by first | exact absurd h81 ((nI_pos (by omega))) | exact absurd ((nI_pos (by omega))) h81)) (fun h81 => ?_)
            refine zo_aload_n (i := i_Mo_asked) (pc := 84) d_Mo_asked_84 rfl rfl ?_
            refine zo_get (i := i_Mo_asked) (pc := 85) 10 14 rfl zok_Mo (Nat.le_of_ble_eq_true rfl) (ztb_of k_872 rfl) d_Mo_asked_85 (fun _ _ _ h => h) (hs.get (t := 0) rfl) rfl ?_
            refine zo_iload (i := i_Mo_asked) (pc := 88) d_Mo_asked_88 rfl ?_
            refine zo_iaload (i := i_Mo_asked) (pc := 90) d_Mo_asked_90 (hs.get (t := 5) rfl) (vp_in_nI (by omega) (by decide)) ?_
            refine zo_iconst (i := i_Mo_asked) (pc := 91) (v := 1) d_Mo_asked_91 (by decide) ?_
            refine zo_icmp_ne (i := i_Mo_asked) (pc := 92) (tgt := 104) d_Mo_asked_92 (by decide) (fun h92 => ?_) (fun h92 => ?_)
            · refine zo_aload_n (i := i_Mo_asked) (pc := 104) d_Mo_asked_104 rfl rfl ?_
              refine zo_iload (i := i_Mo_asked) (pc := 105) d_Mo_asked_105 rfl ?_
              refine zc_V1 (i := i_Mo_asked) (pc := 107) 10 rfl m_Mo_usable (ztb_of k_1069 rfl) (ztb_of k_1071 rfl) s_Mo_usable d_Mo_asked_107 (Nat.le_of_ble_eq_true rfl) (Nat.le_of_ble_eq_true rfl) (Nat.le_of_ble_eq_true rfl) (Nat.le_of_ble_eq_true rfl) (hs.get (t := 0) rfl) (l_usable ⟨_, _, hr, hs⟩ hx ?_)
              refine zo_if_eq (i := i_Mo_asked) (pc := 110) (tgt := 141) d_Mo_asked_110 (by decide) (fun h110 => ?_) (fun h110 => ?_)
              · refine zo_return (i := i_Mo_asked) (pc := 141) hq d_Mo_asked_141 rfl (Nat.le_of_ble_eq_true rfl) (Nat.le_of_ble_eq_true rfl) ?_
                rw [o14] at h92
                have kk := k0 hg hdn ws
                unfold askedT at kk
                rw [hf] at kk
                simp only at kk
                have hu0 := zb_eq h110
                rw [if_neg (by rw [hu0]; decide), if_neg (fun hh => h92 hh.2)] at kk
                exact kk ⟨_, _, hr, hs⟩
              · refine zo_iload_n (i := i_Mo_asked) (pc := 113) d_Mo_asked_113 rfl ?_
                refine zo_if_eq (i := i_Mo_asked) (pc := 114) (tgt := 125) d_Mo_asked_114 (by decide) (fun h114 => ?_) (fun h114 => False.elim (by first | exact absurd h114 (h76) | exact absurd (h76) h114))
                refine zo_aload_n (i := i_Mo_asked) (pc := 125) d_Mo_asked_125 rfl rfl ?_
                refine zo_iconst (i := i_Mo_asked) (pc := 126) (v := 3) d_Mo_asked_126 (by decide) ?_
                refine zo_iload_n (i := i_Mo_asked) (pc := 127) d_Mo_asked_127 rfl ?_
                refine zo_if_ne (i := i_Mo_asked) (pc := 128) (tgt := 136) d_Mo_asked_128 (by decide) (fun h128 => False.elim (by first | exact absurd h128 (h76) | exact absurd (h76) h128)) (fun h128 => ?_)
                refine zo_ldc (i := i_Mo_asked) (pc := 131) d_Mo_asked_131 (ztb_of k_853 rfl) ?_
                refine zo_goto (i := i_Mo_asked) (pc := 133) (tgt := 137) d_Mo_asked_133 (by decide) ?_
                refine zo_iload_n (i := i_Mo_asked) (pc := 137) d_Mo_asked_137 rfl ?_
                refine zc_V3 (i := i_Mo_asked) (pc := 138) 10 rfl m_Mo_out (ztb_of k_854 rfl) (ztb_of k_856 rfl) s_Mo_out d_Mo_asked_138 (Nat.le_of_ble_eq_true rfl) (Nat.le_of_ble_eq_true rfl) (Nat.le_of_ble_eq_true rfl) (Nat.le_of_ble_eq_true rfl) (hs.get (t := 0) rfl) (l_out ⟨_, _, hr, hs⟩ (by omega) fun ws hS => ?_)
                refine zo_return (i := i_Mo_asked) (pc := 141) hq d_Mo_asked_141 rfl (Nat.le_of_ble_eq_true rfl) (Nat.le_of_ble_eq_true rfl) ?_
                have kk := k0 hg hdn ws
                unfold askedT at kk
                rw [hf] at kk
                simp only at kk
                have hu1 := zb_ne h110
                rw [if_pos hu1, if_pos h76, if_pos h76] at kk
                exact kk hS
            · refine zo_aload_n (i := i_Mo_asked) (pc := 95) d_Mo_asked_95 rfl rfl ?_
              refine zo_iload (i := i_Mo_asked) (pc := 96) d_Mo_asked_96 rfl ?_
              refine zc_V1 (i := i_Mo_asked) (pc := 98) 10 rfl m_Mo_contradict (ztb_of k_1061 rfl) (ztb_of k_1063 rfl) s_Mo_contradict d_Mo_asked_98 (Nat.le_of_ble_eq_true rfl) (Nat.le_of_ble_eq_true rfl) (Nat.le_of_ble_eq_true rfl) (Nat.le_of_ble_eq_true rfl) (hs.get (t := 0) rfl) (l_contradict ⟨_, _, hr, hs⟩ hx fun ws hS => ?_)
              refine zo_goto (i := i_Mo_asked) (pc := 101) (tgt := 141) d_Mo_asked_101 (by decide) ?_
              refine zo_return (i := i_Mo_asked) (pc := 141) hq d_Mo_asked_141 rfl (Nat.le_of_ble_eq_true rfl) (Nat.le_of_ble_eq_true rfl) ?_
              have kk := k0 hg hdn ws
              unfold askedT at kk
              rw [hf] at kk
              simp only at kk
              rw [o14] at h92
              rw [if_neg (by rw [h92]; decide), if_pos ⟨h76, h92⟩] at kk
              unfold dupT at kk
              rw [hset] at kk
              exact kk hS
        · refine zo_istore (i := i_Mo_asked) (pc := 73) d_Mo_asked_73 (Nat.le_of_ble_eq_true rfl) ?_
          refine zo_iload_n (i := i_Mo_asked) (pc := 75) d_Mo_asked_75 rfl ?_
          refine zo_if_ne (i := i_Mo_asked) (pc := 76) (tgt := 104) d_Mo_asked_76 (by decide) (fun h76 => ?_) (fun h76 => ?_)
          · refine zo_aload_n (i := i_Mo_asked) (pc := 104) d_Mo_asked_104 rfl rfl ?_
            refine zo_iload (i := i_Mo_asked) (pc := 105) d_Mo_asked_105 rfl ?_
            refine zc_V1 (i := i_Mo_asked) (pc := 107) 10 rfl m_Mo_usable (ztb_of k_1069 rfl) (ztb_of k_1071 rfl) s_Mo_usable d_Mo_asked_107 (Nat.le_of_ble_eq_true rfl) (Nat.le_of_ble_eq_true rfl) (Nat.le_of_ble_eq_true rfl) (Nat.le_of_ble_eq_true rfl) (hs.get (t := 0) rfl) (c_Mo_usableN (by decide) ?_)
            refine zo_if_eq (i := i_Mo_asked) (pc := 110) (tgt := 141) d_Mo_asked_110 (by decide) (fun h110 => ?_) (fun h110 => False.elim (by first | exact absurd h110 (rfl) | exact absurd (rfl) h110))
            refine zo_return (i := i_Mo_asked) (pc := 141) hq d_Mo_asked_141 rfl (Nat.le_of_ble_eq_true rfl) (Nat.le_of_ble_eq_true rfl) ?_
            have kk := k0 hg hdn ws
            unfold askedT at kk
            rw [hf] at kk
            simp only at kk
            exact kk ⟨_, _, hr, hs⟩
          · refine zo_iload (i := i_Mo_asked) (pc := 79) d_Mo_asked_79 rfl ?_
            refine zo_if_lt (i := i_Mo_asked) (pc := 81) (tgt := 104) d_Mo_asked_81 (by decide) (fun h81 => ?_) (fun h81 => False.elim (by first | exact absurd h81 ((by decide)) | exact absurd ((by decide)) h81))
            refine zo_aload_n (i := i_Mo_asked) (pc := 104) d_Mo_asked_104 rfl rfl ?_
            refine zo_iload (i := i_Mo_asked) (pc := 105) d_Mo_asked_105 rfl ?_
            refine zc_V1 (i := i_Mo_asked) (pc := 107) 10 rfl m_Mo_usable (ztb_of k_1069 rfl) (ztb_of k_1071 rfl) s_Mo_usable d_Mo_asked_107 (Nat.le_of_ble_eq_true rfl) (Nat.le_of_ble_eq_true rfl) (Nat.le_of_ble_eq_true rfl) (Nat.le_of_ble_eq_true rfl) (hs.get (t := 0) rfl) (c_Mo_usableN (by decide) ?_)
            refine zo_if_eq (i := i_Mo_asked) (pc := 110) (tgt := 141) d_Mo_asked_110 (by decide) (fun h110 => ?_) (fun h110 => False.elim (by first | exact absurd h110 (rfl) | exact absurd (rfl) h110))
            refine zo_return (i := i_Mo_asked) (pc := 141) hq d_Mo_asked_141 rfl (Nat.le_of_ble_eq_true rfl) (Nat.le_of_ble_eq_true rfl) ?_
            have kk := k0 hg hdn ws
            unfold askedT at kk
            rw [hf] at kk
            simp only at kk
            exact kk ⟨_, _, hr, hs⟩
      · refine zo_iload_n (i := i_Mo_asked) (pc := 0) d_Mo_asked_0 rfl ?_
        refine zo_if_eq (i := i_Mo_asked) (pc := 1) (tgt := 12) d_Mo_asked_1 (by decide) (fun h1 => False.elim (by first | exact absurd h1 (hf0) | exact absurd (hf0) h1)) (fun h1 => ?_)
        refine zo_aload_n (i := i_Mo_asked) (pc := 4) d_Mo_asked_4 rfl rfl ?_
        refine zo_iload_n (i := i_Mo_asked) (pc := 5) d_Mo_asked_5 rfl ?_
        refine zc_V1 (i := i_Mo_asked) (pc := 6) 10 rfl m_Mo_isAddress (ztb_of k_1056 rfl) (ztb_of k_1058 rfl) s_Mo_isAddress d_Mo_asked_6 (Nat.le_of_ble_eq_true rfl) (Nat.le_of_ble_eq_true rfl) (Nat.le_of_ble_eq_true rfl) (Nat.le_of_ble_eq_true rfl) (hs.get (t := 0) rfl) (c_Mo_isAddress ?_)
        refine zo_if_eq (i := i_Mo_asked) (pc := 9) (tgt := 28) d_Mo_asked_9 (by decide) (fun h9 => False.elim (by first | exact absurd h9 ((by rw [hg.1.resolve_left hf0]; decide)) | exact absurd ((by rw [hg.1.resolve_left hf0]; decide)) h9)) (fun h9 => ?_)
        refine zo_aload_n (i := i_Mo_asked) (pc := 12) d_Mo_asked_12 rfl rfl ?_
        refine zo_iload_n (i := i_Mo_asked) (pc := 13) d_Mo_asked_13 rfl ?_
        refine zc_V1 (i := i_Mo_asked) (pc := 14) 10 rfl m_Mo_isAddress (ztb_of k_1056 rfl) (ztb_of k_1058 rfl) s_Mo_isAddress d_Mo_asked_14 (Nat.le_of_ble_eq_true rfl) (Nat.le_of_ble_eq_true rfl) (Nat.le_of_ble_eq_true rfl) (Nat.le_of_ble_eq_true rfl) (hs.get (t := 0) rfl) (c_Mo_isAddress ?_)
        refine zo_if_eq (i := i_Mo_asked) (pc := 17) (tgt := 28) d_Mo_asked_17 (by decide) (fun h17 => False.elim (by first | exact absurd h17 ((by rw [hg.2.1]; decide)) | exact absurd ((by rw [hg.2.1]; decide)) h17)) (fun h17 => ?_)
        refine zo_aload_n (i := i_Mo_asked) (pc := 20) d_Mo_asked_20 rfl rfl ?_
        refine zo_iload_n (i := i_Mo_asked) (pc := 21) d_Mo_asked_21 rfl ?_
        refine zc_V1 (i := i_Mo_asked) (pc := 22) 10 rfl m_Mo_isNumber (ztb_of k_1004 rfl) (ztb_of k_1006 rfl) s_Mo_isNumber d_Mo_asked_22 (Nat.le_of_ble_eq_true rfl) (Nat.le_of_ble_eq_true rfl) (Nat.le_of_ble_eq_true rfl) (Nat.le_of_ble_eq_true rfl) (hs.get (t := 0) rfl) (c_Mo_isNumber ?_)
        refine zo_if_ne (i := i_Mo_asked) (pc := 25) (tgt := 32) d_Mo_asked_25 (by decide) (fun h25 => ?_) (fun h25 => False.elim (by first | exact absurd h25 ((by rw [hg.2.2]; decide)) | exact absurd ((by rw [hg.2.2]; decide)) h25))
        refine zo_iconst (i := i_Mo_asked) (pc := 32) (v := 0) d_Mo_asked_32 (by decide) ?_
        refine zo_istore (i := i_Mo_asked) (pc := 33) d_Mo_asked_33 (Nat.le_of_ble_eq_true rfl) ?_
        refine zo_aload_n (i := i_Mo_asked) (pc := 35) d_Mo_asked_35 rfl rfl ?_
        refine zo_iload (i := i_Mo_asked) (pc := 36) d_Mo_asked_36 rfl ?_
        refine zo_if_eq (i := i_Mo_asked) (pc := 38) (tgt := 45) d_Mo_asked_38 (by decide) (fun h38 => ?_) (fun h38 => False.elim (by first | exact absurd h38 (rfl) | exact absurd (rfl) h38))
        refine zo_aload_n (i := i_Mo_asked) (pc := 45) d_Mo_asked_45 rfl rfl ?_
        refine zo_get (i := i_Mo_asked) (pc := 46) 10 3 rfl zok_Mo (Nat.le_of_ble_eq_true rfl) (ztb_of k_861 rfl) d_Mo_asked_46 (fun _ _ _ h => h) (hs.get (t := 0) rfl) rfl ?_
        refine zo_if_eq (i := i_Mo_asked) (pc := 49) (tgt := 56) d_Mo_asked_49 (by decide) (fun h49 => False.elim (by first | exact absurd h49 ((by rw [hr.1.2.2.2.1, hdn]; decide)) | exact absurd ((by rw [hr.1.2.2.2.1, hdn]; decide)) h49)) (fun h49 => ?_)
        refine zo_iconst (i := i_Mo_asked) (pc := 52) (v := 2) d_Mo_asked_52 (by decide) ?_
        refine zo_goto (i := i_Mo_asked) (pc := 53) (tgt := 57) d_Mo_asked_53 (by decide) ?_
        refine zh_put (i := i_Mo_asked) (pc := 57) 10 0 rfl zok_Mo (Nat.le_of_ble_eq_true rfl) (ztb_of k_858 rfl) rfl d_Mo_asked_57 (fun _ _ _ h => h) (t_Mo_ok 0 (Nat.le_of_ble_eq_true rfl)) rfl rfl hs 0 rfl (Nat.le_of_ble_eq_true rfl) fun ws hs => ?_
        refine zo_aload_n (i := i_Mo_asked) (pc := 60) d_Mo_asked_60 rfl rfl ?_
        refine zo_get (i := i_Mo_asked) (pc := 61) 10 0 rfl zok_Mo (Nat.le_of_ble_eq_true rfl) (ztb_of k_858 rfl) d_Mo_asked_61 (fun _ _ _ h => h) (hs.get (t := 0) rfl) rfl ?_
        refine zo_if_eq (i := i_Mo_asked) (pc := 64) (tgt := 68) d_Mo_asked_64 (by decide) (fun h64 => False.elim (by first | exact absurd h64 ((by decide)) | exact absurd ((by decide)) h64)) (fun h64 => ?_)
        refine zo_return (i := i_Mo_asked) (pc := 67) hq d_Mo_asked_67 rfl (Nat.le_of_ble_eq_true rfl) (Nat.le_of_ble_eq_true rfl) ?_
        exact k2 hg hdn ws ⟨_, _, hr.thrown, hs⟩
    · refine zo_iload_n (i := i_Mo_asked) (pc := 0) d_Mo_asked_0 rfl ?_
      refine zo_if_eq (i := i_Mo_asked) (pc := 1) (tgt := 12) d_Mo_asked_1 (by decide) (fun h1 => False.elim (by first | exact absurd h1 (hf0) | exact absurd (hf0) h1)) (fun h1 => ?_)
      refine zo_aload_n (i := i_Mo_asked) (pc := 4) d_Mo_asked_4 rfl rfl ?_
      refine zo_iload_n (i := i_Mo_asked) (pc := 5) d_Mo_asked_5 rfl ?_
      refine zc_V1 (i := i_Mo_asked) (pc := 6) 10 rfl m_Mo_isAddress (ztb_of k_1056 rfl) (ztb_of k_1058 rfl) s_Mo_isAddress d_Mo_asked_6 (Nat.le_of_ble_eq_true rfl) (Nat.le_of_ble_eq_true rfl) (Nat.le_of_ble_eq_true rfl) (Nat.le_of_ble_eq_true rfl) (hs.get (t := 0) rfl) (c_Mo_isAddress ?_)
      refine zo_if_eq (i := i_Mo_asked) (pc := 9) (tgt := 28) d_Mo_asked_9 (by decide) (fun h9 => ?_) (fun h9 => ?_)
      · refine zo_iconst (i := i_Mo_asked) (pc := 28) (v := 1) d_Mo_asked_28 (by decide) ?_
        refine zo_goto (i := i_Mo_asked) (pc := 29) (tgt := 33) d_Mo_asked_29 (by decide) ?_
        refine zo_istore (i := i_Mo_asked) (pc := 33) d_Mo_asked_33 (Nat.le_of_ble_eq_true rfl) ?_
        refine zo_aload_n (i := i_Mo_asked) (pc := 35) d_Mo_asked_35 rfl rfl ?_
        refine zo_iload (i := i_Mo_asked) (pc := 36) d_Mo_asked_36 rfl ?_
        refine zo_if_eq (i := i_Mo_asked) (pc := 38) (tgt := 45) d_Mo_asked_38 (by decide) (fun h38 => False.elim (by first | exact absurd h38 ((by decide)) | exact absurd ((by decide)) h38)) (fun h38 => ?_)
        refine zo_iconst (i := i_Mo_asked) (pc := 41) (v := 1) d_Mo_asked_41 (by decide) ?_
        refine zo_goto (i := i_Mo_asked) (pc := 42) (tgt := 57) d_Mo_asked_42 (by decide) ?_
        refine zh_put (i := i_Mo_asked) (pc := 57) 10 0 rfl zok_Mo (Nat.le_of_ble_eq_true rfl) (ztb_of k_858 rfl) rfl d_Mo_asked_57 (fun _ _ _ h => h) (t_Mo_ok 0 (Nat.le_of_ble_eq_true rfl)) rfl rfl hs 0 rfl (Nat.le_of_ble_eq_true rfl) fun ws hs => ?_
        refine zo_aload_n (i := i_Mo_asked) (pc := 60) d_Mo_asked_60 rfl rfl ?_
        refine zo_get (i := i_Mo_asked) (pc := 61) 10 0 rfl zok_Mo (Nat.le_of_ble_eq_true rfl) (ztb_of k_858 rfl) d_Mo_asked_61 (fun _ _ _ h => h) (hs.get (t := 0) rfl) rfl ?_
        refine zo_if_eq (i := i_Mo_asked) (pc := 64) (tgt := 68) d_Mo_asked_64 (by decide) (fun h64 => False.elim (by first | exact absurd h64 ((by decide)) | exact absurd ((by decide)) h64)) (fun h64 => ?_)
        refine zo_return (i := i_Mo_asked) (pc := 67) hq d_Mo_asked_67 rfl (Nat.le_of_ble_eq_true rfl) (Nat.le_of_ble_eq_true rfl) ?_
        exact k1 hg ws ⟨_, _, hr.thrown, hs⟩
      · refine zo_aload_n (i := i_Mo_asked) (pc := 12) d_Mo_asked_12 rfl rfl ?_
        refine zo_iload_n (i := i_Mo_asked) (pc := 13) d_Mo_asked_13 rfl ?_
        refine zc_V1 (i := i_Mo_asked) (pc := 14) 10 rfl m_Mo_isAddress (ztb_of k_1056 rfl) (ztb_of k_1058 rfl) s_Mo_isAddress d_Mo_asked_14 (Nat.le_of_ble_eq_true rfl) (Nat.le_of_ble_eq_true rfl) (Nat.le_of_ble_eq_true rfl) (Nat.le_of_ble_eq_true rfl) (hs.get (t := 0) rfl) (c_Mo_isAddress ?_)
        refine zo_if_eq (i := i_Mo_asked) (pc := 17) (tgt := 28) d_Mo_asked_17 (by decide) (fun h17 => ?_) (fun h17 => ?_)
        · refine zo_iconst (i := i_Mo_asked) (pc := 28) (v := 1) d_Mo_asked_28 (by decide) ?_
          refine zo_goto (i := i_Mo_asked) (pc := 29) (tgt := 33) d_Mo_asked_29 (by decide) ?_
          refine zo_istore (i := i_Mo_asked) (pc := 33) d_Mo_asked_33 (Nat.le_of_ble_eq_true rfl) ?_
          refine zo_aload_n (i := i_Mo_asked) (pc := 35) d_Mo_asked_35 rfl rfl ?_
          refine zo_iload (i := i_Mo_asked) (pc := 36) d_Mo_asked_36 rfl ?_
          refine zo_if_eq (i := i_Mo_asked) (pc := 38) (tgt := 45) d_Mo_asked_38 (by decide) (fun h38 => False.elim (by first | exact absurd h38 ((by decide)) | exact absurd ((by decide)) h38)) (fun h38 => ?_)
          refine zo_iconst (i := i_Mo_asked) (pc := 41) (v := 1) d_Mo_asked_41 (by decide) ?_
          refine zo_goto (i := i_Mo_asked) (pc := 42) (tgt := 57) d_Mo_asked_42 (by decide) ?_
          refine zh_put (i := i_Mo_asked) (pc := 57) 10 0 rfl zok_Mo (Nat.le_of_ble_eq_true rfl) (ztb_of k_858 rfl) rfl d_Mo_asked_57 (fun _ _ _ h => h) (t_Mo_ok 0 (Nat.le_of_ble_eq_true rfl)) rfl rfl hs 0 rfl (Nat.le_of_ble_eq_true rfl) fun ws hs => ?_
          refine zo_aload_n (i := i_Mo_asked) (pc := 60) d_Mo_asked_60 rfl rfl ?_
          refine zo_get (i := i_Mo_asked) (pc := 61) 10 0 rfl zok_Mo (Nat.le_of_ble_eq_true rfl) (ztb_of k_858 rfl) d_Mo_asked_61 (fun _ _ _ h => h) (hs.get (t := 0) rfl) rfl ?_
          refine zo_if_eq (i := i_Mo_asked) (pc := 64) (tgt := 68) d_Mo_asked_64 (by decide) (fun h64 => False.elim (by first | exact absurd h64 ((by decide)) | exact absurd ((by decide)) h64)) (fun h64 => ?_)
          refine zo_return (i := i_Mo_asked) (pc := 67) hq d_Mo_asked_67 rfl (Nat.le_of_ble_eq_true rfl) (Nat.le_of_ble_eq_true rfl) ?_
          exact k1 hg ws ⟨_, _, hr.thrown, hs⟩
        · refine zo_aload_n (i := i_Mo_asked) (pc := 20) d_Mo_asked_20 rfl rfl ?_
          refine zo_iload_n (i := i_Mo_asked) (pc := 21) d_Mo_asked_21 rfl ?_
          refine zc_V1 (i := i_Mo_asked) (pc := 22) 10 rfl m_Mo_isNumber (ztb_of k_1004 rfl) (ztb_of k_1006 rfl) s_Mo_isNumber d_Mo_asked_22 (Nat.le_of_ble_eq_true rfl) (Nat.le_of_ble_eq_true rfl) (Nat.le_of_ble_eq_true rfl) (Nat.le_of_ble_eq_true rfl) (hs.get (t := 0) rfl) (c_Mo_isNumber ?_)
          refine zo_if_ne (i := i_Mo_asked) (pc := 25) (tgt := 32) d_Mo_asked_25 (by decide) (fun h25 => False.elim (by first | exact absurd h25 ((zb_no (fun hz => hg ⟨.inr (zb_ne h9), zb_ne h17, hz⟩))) | exact absurd ((zb_no (fun hz => hg ⟨.inr (zb_ne h9), zb_ne h17, hz⟩))) h25)) (fun h25 => ?_)
          refine zo_iconst (i := i_Mo_asked) (pc := 28) (v := 1) d_Mo_asked_28 (by decide) ?_
          refine zo_goto (i := i_Mo_asked) (pc := 29) (tgt := 33) d_Mo_asked_29 (by decide) ?_
          refine zo_istore (i := i_Mo_asked) (pc := 33) d_Mo_asked_33 (Nat.le_of_ble_eq_true rfl) ?_
          refine zo_aload_n (i := i_Mo_asked) (pc := 35) d_Mo_asked_35 rfl rfl ?_
          refine zo_iload (i := i_Mo_asked) (pc := 36) d_Mo_asked_36 rfl ?_
          refine zo_if_eq (i := i_Mo_asked) (pc := 38) (tgt := 45) d_Mo_asked_38 (by decide) (fun h38 => False.elim (by first | exact absurd h38 ((by decide)) | exact absurd ((by decide)) h38)) (fun h38 => ?_)
          refine zo_iconst (i := i_Mo_asked) (pc := 41) (v := 1) d_Mo_asked_41 (by decide) ?_
          refine zo_goto (i := i_Mo_asked) (pc := 42) (tgt := 57) d_Mo_asked_42 (by decide) ?_
          refine zh_put (i := i_Mo_asked) (pc := 57) 10 0 rfl zok_Mo (Nat.le_of_ble_eq_true rfl) (ztb_of k_858 rfl) rfl d_Mo_asked_57 (fun _ _ _ h => h) (t_Mo_ok 0 (Nat.le_of_ble_eq_true rfl)) rfl rfl hs 0 rfl (Nat.le_of_ble_eq_true rfl) fun ws hs => ?_
          refine zo_aload_n (i := i_Mo_asked) (pc := 60) d_Mo_asked_60 rfl rfl ?_
          refine zo_get (i := i_Mo_asked) (pc := 61) 10 0 rfl zok_Mo (Nat.le_of_ble_eq_true rfl) (ztb_of k_858 rfl) d_Mo_asked_61 (fun _ _ _ h => h) (hs.get (t := 0) rfl) rfl ?_
          refine zo_if_eq (i := i_Mo_asked) (pc := 64) (tgt := 68) d_Mo_asked_64 (by decide) (fun h64 => False.elim (by first | exact absurd h64 ((by decide)) | exact absurd ((by decide)) h64)) (fun h64 => ?_)
          refine zo_return (i := i_Mo_asked) (pc := 67) hq d_Mo_asked_67 rfl (Nat.le_of_ble_eq_true rfl) (Nat.le_of_ble_eq_true rfl) ?_
          exact k1 hg ws ⟨_, _, hr.thrown, hs⟩
