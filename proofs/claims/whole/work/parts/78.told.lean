/-! The model by states: told (walks by a program, gen78.py). -/
theorem l_told {g : zG} {ws : va_W} {post : Option Value → va_W → Prop} {B : Nat → Nat} {q : hT} {t : Int32} {R : va_W} (h : mS g B q t R ws) {t' n fl : Int32} {T U : Nat} (hi : hI q T U) (hU : U + 1 < 2000000000) (k0 : (zaddr t' = true ∧ zwithin n 1 99 = true ∧ zwithin fl 0 7 = true) → q.1.2.2.2.2.2.2 = false → ∀ w, mS g B (toldT q t' n fl) 0 R w → post none w) (k1 : ¬ (zaddr t' = true ∧ zwithin n 1 99 = true ∧ zwithin fl 0 7 = true) → ∀ w, mS g B q 1 R w → post none w) (k2 : (zaddr t' = true ∧ zwithin n 1 99 = true ∧ zwithin fl 0 7 = true) → q.1.2.2.2.2.2.2 = true → ∀ w, mS g B q 2 R w → post none w) : zC g i_Mo_told [.ref (B 0), .int t', .int n, .int fl] ws post := by
  refine zC.intro (by decide +kernel) rfl (Nat.le_of_ble_eq_true rfl) fun x0 hq => ?_
  obtain ⟨m, F, hr, hs⟩ := h
  by_cases hg : zaddr t' = true ∧ zwithin n 1 99 = true ∧ zwithin fl 0 7 = true
  · cases hdn : q.1.2.2.2.2.2.2
    · refine zo_aload_n (i := i_Mo_told) (pc := 0) d_Mo_told_0 rfl rfl ?_
      refine zo_aload_n (i := i_Mo_told) (pc := 1) d_Mo_told_1 rfl rfl ?_
      refine zo_iload_n (i := i_Mo_told) (pc := 2) d_Mo_told_2 rfl ?_
      refine zc_V1 (i := i_Mo_told) (pc := 3) 10 rfl m_Mo_isAddress (ztb_of k_1056 rfl) (ztb_of k_1058 rfl) s_Mo_isAddress d_Mo_told_3 (Nat.le_of_ble_eq_true rfl) (Nat.le_of_ble_eq_true rfl) (Nat.le_of_ble_eq_true rfl) (Nat.le_of_ble_eq_true rfl) (hs.get (t := 0) rfl) (c_Mo_isAddress ?_)
      refine zo_if_eq (i := i_Mo_told) (pc := 6) (tgt := 27) d_Mo_told_6 (by decide) (fun h6 => False.elim (by first | exact absurd h6 ((by rw [hg.1]; decide)) | exact absurd ((by rw [hg.1]; decide)) h6)) (fun h6 => ?_)
      refine zo_aload_n (i := i_Mo_told) (pc := 9) d_Mo_told_9 rfl rfl ?_
      refine zo_iload_n (i := i_Mo_told) (pc := 10) d_Mo_told_10 rfl ?_
      refine zc_V1 (i := i_Mo_told) (pc := 11) 10 rfl m_Mo_isNumber (ztb_of k_1004 rfl) (ztb_of k_1006 rfl) s_Mo_isNumber d_Mo_told_11 (Nat.le_of_ble_eq_true rfl) (Nat.le_of_ble_eq_true rfl) (Nat.le_of_ble_eq_true rfl) (Nat.le_of_ble_eq_true rfl) (hs.get (t := 0) rfl) (c_Mo_isNumber ?_)
      refine zo_if_eq (i := i_Mo_told) (pc := 14) (tgt := 27) d_Mo_told_14 (by decide) (fun h14 => False.elim (by first | exact absurd h14 ((by rw [hg.2.1]; decide)) | exact absurd ((by rw [hg.2.1]; decide)) h14)) (fun h14 => ?_)
      refine zo_iload_n (i := i_Mo_told) (pc := 17) d_Mo_told_17 rfl ?_
      refine zo_if_lt (i := i_Mo_told) (pc := 18) (tgt := 27) d_Mo_told_18 (by decide) (fun h18 => False.elim (by first | exact absurd h18 ((zw_iff.mp hg.2.2).1) | exact absurd ((zw_iff.mp hg.2.2).1) h18)) (fun h18 => ?_)
      refine zo_iload_n (i := i_Mo_told) (pc := 21) d_Mo_told_21 rfl ?_
      refine zo_bipush (i := i_Mo_told) (pc := 22) (v := 7) d_Mo_told_22 (by decide) ?_
      refine zo_icmp_le (i := i_Mo_told) (pc := 24) (tgt := 31) d_Mo_told_24 (by decide) (fun h24 => ?_) (fun h24 => False.elim (by first | exact absurd h24 ((Int32.not_lt.mp (zw_iff.mp hg.2.2).2)) | exact absurd ((Int32.not_lt.mp (zw_iff.mp hg.2.2).2)) h24))
      refine zo_aload_n (i := i_Mo_told) (pc := 31) d_Mo_told_31 rfl rfl ?_
      refine zo_get (i := i_Mo_told) (pc := 32) 10 3 rfl zok_Mo (Nat.le_of_ble_eq_true rfl) (ztb_of k_861 rfl) d_Mo_told_32 (fun _ _ _ h => h) (hs.get (t := 0) rfl) rfl ?_
      refine zo_if_eq (i := i_Mo_told) (pc := 35) (tgt := 42) d_Mo_told_35 (by decide) (fun h35 => ?_) (fun h35 => False.elim (by first | exact absurd h35 ((by rw [hr.1.2.2.2.1, hdn]; rfl)) | exact absurd ((by rw [hr.1.2.2.2.1, hdn]; rfl)) h35))
      refine zo_iconst (i := i_Mo_told) (pc := 42) (v := 0) d_Mo_told_42 (by decide) ?_
      refine zh_put (i := i_Mo_told) (pc := 43) 10 0 rfl zok_Mo (Nat.le_of_ble_eq_true rfl) (ztb_of k_858 rfl) rfl d_Mo_told_43 (fun _ _ _ h => h) (t_Mo_ok 0 (Nat.le_of_ble_eq_true rfl)) rfl rfl hs 0 rfl (Nat.le_of_ble_eq_true rfl) fun ws hs => ?_
      refine zo_aload_n (i := i_Mo_told) (pc := 46) d_Mo_told_46 rfl rfl ?_
      refine zo_get (i := i_Mo_told) (pc := 47) 10 0 rfl zok_Mo (Nat.le_of_ble_eq_true rfl) (ztb_of k_858 rfl) d_Mo_told_47 (fun _ _ _ h => h) (hs.get (t := 0) rfl) rfl ?_
      refine zo_if_eq (i := i_Mo_told) (pc := 50) (tgt := 54) d_Mo_told_50 (by decide) (fun h50 => ?_) (fun h50 => False.elim (by first | exact absurd h50 (rfl) | exact absurd (rfl) h50))
      obtain ⟨m, F, hr, hs⟩ : mS g B q 0 R ws := ⟨_, _, hr.thrown, hs⟩
      obtain ⟨cc, a1, a2, a3, a4, a5, a6, a7, a8, a9, a10, a11, ar⟩ := id hi
      have tail : ∀ (o : Option Value) (ws : va_W), toldT q t' n fl = toldN q t' n fl → mS g B q 0 R ws → zW x0 g i_Mo_told 84 [some (.ref (B 0)), some (.int t'), some (.int n), some (.int fl), o, none, none, none] [] ws 0 0 := by
        intro o ws hN hS
        obtain ⟨m, F, hr, hs⟩ := hS
        refine zo_aload_n (i := i_Mo_told) (pc := 84) d_Mo_told_84 rfl rfl ?_
        refine zo_iload_n (i := i_Mo_told) (pc := 85) d_Mo_told_85 rfl ?_
        refine zc_V1 (i := i_Mo_told) (pc := 86) 10 rfl m_Mo_neighbourAt (ztb_of k_1012 rfl) (ztb_of k_1014 rfl) s_Mo_neighbourAt d_Mo_told_86 (Nat.le_of_ble_eq_true rfl) (Nat.le_of_ble_eq_true rfl) (Nat.le_of_ble_eq_true rfl) (Nat.le_of_ble_eq_true rfl) (hs.get (t := 0) rfl) (l_nbAt ⟨_, _, hr, hs⟩ (fun j x hx hxa hf hset hno => ?_) (fun hf => ?_))
        · have hjl := len_of hx
          have hxv := a9 x (List.mem_of_getElem? hx)
          have hix : nbIx q.2.2.2.1 t' j x := ⟨hx, hxa, hno⟩
          obtain ⟨o19, o20, o21, o22, o23, o24, ho7⟩ := hr.nb hx
          refine zo_istore (i := i_Mo_told) (pc := 89) d_Mo_told_89 (Nat.le_of_ble_eq_true rfl) ?_
          refine zo_iload (i := i_Mo_told) (pc := 91) d_Mo_told_91 rfl ?_
          refine zo_if_ge (i := i_Mo_told) (pc := 93) (tgt := 97) d_Mo_told_93 (by decide) (fun h93 => ?_) (fun h93 => False.elim (by first | exact absurd h93 ((nI_pos' (by omega))) | exact absurd ((nI_pos' (by omega))) h93))
          refine zo_iload_n (i := i_Mo_told) (pc := 97) d_Mo_told_97 rfl ?_
          refine zo_iconst (i := i_Mo_told) (pc := 98) (v := 2) d_Mo_told_98 (by decide) ?_
          refine zo_iand (i := i_Mo_told) (pc := 99) d_Mo_told_99 ?_
          refine zo_iconst (i := i_Mo_told) (pc := 100) (v := 2) d_Mo_told_100 (by decide) ?_
          refine zo_icmp_ne (i := i_Mo_told) (pc := 101) (tgt := 108) d_Mo_told_101 (by decide) (fun h101 => ?_) (fun h101 => ?_)
          · refine zo_iconst (i := i_Mo_told) (pc := 108) (v := 0) d_Mo_told_108 (by decide) ?_
            refine zo_istore (i := i_Mo_told) (pc := 109) d_Mo_told_109 (Nat.le_of_ble_eq_true rfl) ?_
            refine zo_aload_n (i := i_Mo_told) (pc := 111) d_Mo_told_111 rfl rfl ?_
            refine zo_get (i := i_Mo_told) (pc := 112) 10 20 rfl zok_Mo (Nat.le_of_ble_eq_true rfl) (ztb_of k_878 rfl) d_Mo_told_112 (fun _ _ _ h => h) (hs.get (t := 0) rfl) rfl ?_
            refine zo_iload (i := i_Mo_told) (pc := 115) d_Mo_told_115 rfl ?_
            refine zo_iaload (i := i_Mo_told) (pc := 117) d_Mo_told_117 (hs.get (t := 10) rfl) (vp_in_nI (by omega) (by decide)) ?_
            refine zo_iload_n (i := i_Mo_told) (pc := 118) d_Mo_told_118 rfl ?_
            refine zo_icmp_eq (i := i_Mo_told) (pc := 119) (tgt := 126) d_Mo_told_119 (by decide) (fun h119 => ?_) (fun h119 => ?_)
            · refine zo_iconst (i := i_Mo_told) (pc := 126) (v := 0) d_Mo_told_126 (by decide) ?_
              refine zo_istore (i := i_Mo_told) (pc := 127) d_Mo_told_127 (Nat.le_of_ble_eq_true rfl) ?_
              refine zo_aload_n (i := i_Mo_told) (pc := 129) d_Mo_told_129 rfl rfl ?_
              refine zo_get (i := i_Mo_told) (pc := 130) 10 22 rfl zok_Mo (Nat.le_of_ble_eq_true rfl) (ztb_of k_880 rfl) d_Mo_told_130 (fun _ _ _ h => h) (hs.get (t := 0) rfl) rfl ?_
              refine zo_iload (i := i_Mo_told) (pc := 133) d_Mo_told_133 rfl ?_
              refine zo_iaload (i := i_Mo_told) (pc := 135) d_Mo_told_135 (hs.get (t := 12) rfl) (vp_in_nI (by omega) (by decide)) ?_
              refine zo_iconst (i := i_Mo_told) (pc := 136) (v := 1) d_Mo_told_136 (by decide) ?_
              refine zo_icmp_ne (i := i_Mo_told) (pc := 137) (tgt := 191) d_Mo_told_137 (by decide) (fun h137 => ?_) (fun h137 => ?_)
              · refine zo_iload (i := i_Mo_told) (pc := 191) d_Mo_told_191 rfl ?_
                refine zo_if_eq (i := i_Mo_told) (pc := 193) (tgt := 223) d_Mo_told_193 (by decide) (fun h193 => ?_) (fun h193 => False.elim (by first | exact absurd h193 (rfl) | exact absurd (rfl) h193))
                refine zo_aload_n (i := i_Mo_told) (pc := 223) d_Mo_told_223 rfl rfl ?_
                refine zo_get (i := i_Mo_told) (pc := 224) 10 20 rfl zok_Mo (Nat.le_of_ble_eq_true rfl) (ztb_of k_878 rfl) d_Mo_told_224 (fun _ _ _ h => h) (hs.get (t := 0) rfl) rfl ?_
                refine zo_iload (i := i_Mo_told) (pc := 227) d_Mo_told_227 rfl ?_
                refine zo_iload_n (i := i_Mo_told) (pc := 229) d_Mo_told_229 rfl ?_
                refine zh_iastore (i := i_Mo_told) (pc := 230) d_Mo_told_230 hs 10 rfl (vp_in_nI (by omega) (by decide)) fun ws hs => ?_
                replace hs : zHas ws (moW g B m (mup F 20 (upd (F 20) (nI j).toNatClampNeg n)) ++ R) := hs
                rw [nI_clamp (show j < 2 ^ 31 by omega)] at hs
                have hr1 : mR (foc q j x q.2.1) 0 m F := by rw [foc_self hx]; exact hr
                have hS : mS g B (foc q j (x.1, n, x.2.2) q.2.1) 0 R ws := ⟨_, _, foc_number hr1 hjl, hs⟩
                obtain ⟨m1, F1, hr2, hs⟩ := id hS
                refine zo_iload (i := i_Mo_told) (pc := 231) d_Mo_told_231 rfl ?_
                refine zo_if_eq (i := i_Mo_told) (pc := 233) (tgt := 246) d_Mo_told_233 (by decide) (fun h233 => ?_) (fun h233 => False.elim (by first | exact absurd h233 (rfl) | exact absurd (rfl) h233))
                refine zo_iload (i := i_Mo_told) (pc := 246) d_Mo_told_246 rfl ?_
                refine zo_if_eq (i := i_Mo_told) (pc := 248) (tgt := 258) d_Mo_told_248 (by decide) (fun h248 => ?_) (fun h248 => False.elim (by first | exact absurd h248 (rfl) | exact absurd (rfl) h248))
                refine zo_aload_n (i := i_Mo_told) (pc := 258) d_Mo_told_258 rfl rfl ?_
                refine zo_iload (i := i_Mo_told) (pc := 259) d_Mo_told_259 rfl ?_
                refine zo_iload_n (i := i_Mo_told) (pc := 261) d_Mo_told_261 rfl ?_
                refine zo_iconst (i := i_Mo_told) (pc := 262) (v := 1) d_Mo_told_262 (by decide) ?_
                refine zo_iand (i := i_Mo_told) (pc := 263) d_Mo_told_263 ?_
                refine zo_iconst (i := i_Mo_told) (pc := 264) (v := 1) d_Mo_told_264 (by decide) ?_
                refine zo_icmp_ne (i := i_Mo_told) (pc := 265) (tgt := 272) d_Mo_told_265 (by decide) (fun h265 => ?_) (fun h265 => ?_)
                · refine zo_iconst (i := i_Mo_told) (pc := 272) (v := 0) d_Mo_told_272 (by decide) ?_
                  refine zc_V2 (i := i_Mo_told) (pc := 273) 10 rfl m_Mo_route (ztb_of k_1077 rfl) (ztb_of k_1079 rfl) s_Mo_route d_Mo_told_273 (Nat.le_of_ble_eq_true rfl) (Nat.le_of_ble_eq_true rfl) (Nat.le_of_ble_eq_true rfl) (Nat.le_of_ble_eq_true rfl) (hs.get (t := 0) rfl) (f_route false hS hjl a11 fun ws hS => ?_)
                  refine zo_return (i := i_Mo_told) (pc := 276) hq d_Mo_told_276 rfl (Nat.le_of_ble_eq_true rfl) (Nat.le_of_ble_eq_true rfl) ?_
                  rw [o20] at h119
                  rw [o22] at h137
                  have w2 : fl &&& 2 = 0 := Decidable.not_not.mp (fun hh => h101 ((fl1 hg.2.2).2.mpr hh))
                  have w1 : (!decide (fl &&& 1 = 0)) = false := by rw [decide_eq_true (Decidable.not_not.mp (fun hh => h265 ((fl1 hg.2.2).1.mpr hh)))]; rfl
                  have kk := k0 hg hdn ws
                  rw [hN] at kk
                  rw [toldN_else hix (fun hh => hh.2.1 h119), w1] at kk
                  have hXu : hnU q.2.1 x = q.2.1 := by unfold hnU; rw [if_neg h137]
                  have hX : hnX q.1.2.1 n fl x = (x.1, n, x.2.2) := by unfold hnX; rw [if_neg h137, if_pos w2, if_pos h119]
                  rw [hX, hXu] at kk
                  exact kk hS
                · refine zo_iconst (i := i_Mo_told) (pc := 268) (v := 1) d_Mo_told_268 (by decide) ?_
                  refine zo_goto (i := i_Mo_told) (pc := 269) (tgt := 273) d_Mo_told_269 (by decide) ?_
                  refine zc_V2 (i := i_Mo_told) (pc := 273) 10 rfl m_Mo_route (ztb_of k_1077 rfl) (ztb_of k_1079 rfl) s_Mo_route d_Mo_told_273 (Nat.le_of_ble_eq_true rfl) (Nat.le_of_ble_eq_true rfl) (Nat.le_of_ble_eq_true rfl) (Nat.le_of_ble_eq_true rfl) (hs.get (t := 0) rfl) (f_route true hS hjl a11 fun ws hS => ?_)
                  refine zo_return (i := i_Mo_told) (pc := 276) hq d_Mo_told_276 rfl (Nat.le_of_ble_eq_true rfl) (Nat.le_of_ble_eq_true rfl) ?_
                  rw [o20] at h119
                  rw [o22] at h137
                  have w2 : fl &&& 2 = 0 := Decidable.not_not.mp (fun hh => h101 ((fl1 hg.2.2).2.mpr hh))
                  have w1 : (!decide (fl &&& 1 = 0)) = true := by rw [decide_eq_false ((fl1 hg.2.2).1.mp h265)]; rfl
                  have kk := k0 hg hdn ws
                  rw [hN] at kk
                  rw [toldN_else hix (fun hh => hh.2.1 h119), w1] at kk
                  have hXu : hnU q.2.1 x = q.2.1 := by unfold hnU; rw [if_neg h137]
                  have hX : hnX q.1.2.1 n fl x = (x.1, n, x.2.2) := by unfold hnX; rw [if_neg h137, if_pos w2, if_pos h119]
                  rw [hX, hXu] at kk
                  exact kk hS
              · refine zo_aload_n (i := i_Mo_told) (pc := 140) d_Mo_told_140 rfl rfl ?_
                refine zo_get (i := i_Mo_told) (pc := 141) 10 20 rfl zok_Mo (Nat.le_of_ble_eq_true rfl) (ztb_of k_878 rfl) d_Mo_told_141 (fun _ _ _ h => h) (hs.get (t := 0) rfl) rfl ?_
                refine zo_iload (i := i_Mo_told) (pc := 144) d_Mo_told_144 rfl ?_
                refine zo_iload_n (i := i_Mo_told) (pc := 146) d_Mo_told_146 rfl ?_
                refine zh_iastore (i := i_Mo_told) (pc := 147) d_Mo_told_147 hs 10 rfl (vp_in_nI (by omega) (by decide)) fun ws hs => ?_
                replace hs : zHas ws (moW g B m (mup F 20 (upd (F 20) (nI j).toNatClampNeg n)) ++ R) := hs
                rw [nI_clamp (show j < 2 ^ 31 by omega)] at hs
                have hr1 : mR (foc q j x q.2.1) 0 m F := by rw [foc_self hx]; exact hr
                have hS : mS g B (foc q j (x.1, n, x.2.2) q.2.1) 0 R ws := ⟨_, _, foc_number hr1 hjl, hs⟩
                obtain ⟨m1, F1, hr2, hs⟩ := id hS
                refine zo_aload_n (i := i_Mo_told) (pc := 148) d_Mo_told_148 rfl rfl ?_
                refine zo_iload (i := i_Mo_told) (pc := 149) d_Mo_told_149 rfl ?_
                refine zo_iload (i := i_Mo_told) (pc := 151) d_Mo_told_151 rfl ?_
                refine zo_if_eq (i := i_Mo_told) (pc := 153) (tgt := 160) d_Mo_told_153 (by decide) (fun h153 => ?_) (fun h153 => False.elim (by first | exact absurd h153 (rfl) | exact absurd (rfl) h153))
                refine zo_iconst (i := i_Mo_told) (pc := 160) (v := 3) d_Mo_told_160 (by decide) ?_
                refine zc_V2 (i := i_Mo_told) (pc := 161) 10 rfl m_Mo_turn (ztb_of k_984 rfl) (ztb_of k_986 rfl) s_Mo_turn d_Mo_told_161 (Nat.le_of_ble_eq_true rfl) (Nat.le_of_ble_eq_true rfl) (Nat.le_of_ble_eq_true rfl) (Nat.le_of_ble_eq_true rfl) (hs.get (t := 0) rfl) (f_turn (s := 3) hS hjl fun ws hS => ?_)
                obtain ⟨m1, F1, hr2, hs⟩ := id hS
                refine zo_aload_n (i := i_Mo_told) (pc := 164) d_Mo_told_164 rfl rfl ?_
                refine zo_iload (i := i_Mo_told) (pc := 165) d_Mo_told_165 rfl ?_
                refine zc_V1 (i := i_Mo_told) (pc := 167) 10 rfl m_Mo_release (ztb_of k_1020 rfl) (ztb_of k_1022 rfl) s_Mo_release d_Mo_told_167 (Nat.le_of_ble_eq_true rfl) (Nat.le_of_ble_eq_true rfl) (Nat.le_of_ble_eq_true rfl) (Nat.le_of_ble_eq_true rfl) (hs.get (t := 0) rfl) (f_release hS hjl (by omega) (by exact hxv.1) fun ws hS => ?_)
                obtain ⟨m1, F1, hr2, hs⟩ := id hS
                refine zo_aload_n (i := i_Mo_told) (pc := 170) d_Mo_told_170 rfl rfl ?_
                refine zo_iload (i := i_Mo_told) (pc := 171) d_Mo_told_171 rfl ?_
                refine zo_iload_n (i := i_Mo_told) (pc := 173) d_Mo_told_173 rfl ?_
                refine zo_iconst (i := i_Mo_told) (pc := 174) (v := 1) d_Mo_told_174 (by decide) ?_
                refine zo_iand (i := i_Mo_told) (pc := 175) d_Mo_told_175 ?_
                refine zo_iconst (i := i_Mo_told) (pc := 176) (v := 1) d_Mo_told_176 (by decide) ?_
                refine zo_icmp_ne (i := i_Mo_told) (pc := 177) (tgt := 184) d_Mo_told_177 (by decide) (fun h177 => ?_) (fun h177 => ?_)
                · refine zo_iconst (i := i_Mo_told) (pc := 184) (v := 0) d_Mo_told_184 (by decide) ?_
                  refine zc_V2 (i := i_Mo_told) (pc := 185) 10 rfl m_Mo_route (ztb_of k_1077 rfl) (ztb_of k_1079 rfl) s_Mo_route d_Mo_told_185 (Nat.le_of_ble_eq_true rfl) (Nat.le_of_ble_eq_true rfl) (Nat.le_of_ble_eq_true rfl) (Nat.le_of_ble_eq_true rfl) (hs.get (t := 0) rfl) (f_route false hS hjl a11 fun ws hS => ?_)
                  refine zo_goto (i := i_Mo_told) (pc := 188) (tgt := 276) d_Mo_told_188 (by decide) ?_
                  refine zo_return (i := i_Mo_told) (pc := 276) hq d_Mo_told_276 rfl (Nat.le_of_ble_eq_true rfl) (Nat.le_of_ble_eq_true rfl) ?_
                  rw [o20] at h119
                  rw [o22] at h137
                  have w2 : fl &&& 2 = 0 := Decidable.not_not.mp (fun hh => h101 ((fl1 hg.2.2).2.mpr hh))
                  have w1 : (!decide (fl &&& 1 = 0)) = false := by rw [decide_eq_true (Decidable.not_not.mp (fun hh => h177 ((fl1 hg.2.2).1.mpr hh)))]; rfl
                  have kk := k0 hg hdn ws
                  rw [hN] at kk
                  rw [toldN_else hix (fun hh => hh.1 h137), w1] at kk
                  have hX : hnX q.1.2.1 n fl x = swX q.1.2.1 (ndS (x.1, n, x.2.2) 3 q.1.2.1) := by unfold hnX; rw [if_pos h137, if_pos w2]; rfl
                  have hXu : hnU q.2.1 x = swU q.2.1 (ndS (x.1, n, x.2.2) 3 q.1.2.1) := by unfold hnU; rw [if_pos h137]; rfl
                  rw [hX, hXu] at kk
                  exact kk hS
                · refine zo_iconst (i := i_Mo_told) (pc := 180) (v := 1) d_Mo_told_180 (by decide) ?_
                  refine zo_goto (i := i_Mo_told) (pc := 181) (tgt := 185) d_Mo_told_181 (by decide) ?_
                  refine zc_V2 (i := i_Mo_told) (pc := 185) 10 rfl m_Mo_route (ztb_of k_1077 rfl) (ztb_of k_1079 rfl) s_Mo_route d_Mo_told_185 (Nat.le_of_ble_eq_true rfl) (Nat.le_of_ble_eq_true rfl) (Nat.le_of_ble_eq_true rfl) (Nat.le_of_ble_eq_true rfl) (hs.get (t := 0) rfl) (f_route true hS hjl a11 fun ws hS => ?_)
                  refine zo_goto (i := i_Mo_told) (pc := 188) (tgt := 276) d_Mo_told_188 (by decide) ?_
                  refine zo_return (i := i_Mo_told) (pc := 276) hq d_Mo_told_276 rfl (Nat.le_of_ble_eq_true rfl) (Nat.le_of_ble_eq_true rfl) ?_
                  rw [o20] at h119
                  rw [o22] at h137
                  have w2 : fl &&& 2 = 0 := Decidable.not_not.mp (fun hh => h101 ((fl1 hg.2.2).2.mpr hh))
                  have w1 : (!decide (fl &&& 1 = 0)) = true := by rw [decide_eq_false ((fl1 hg.2.2).1.mp h177)]; rfl
                  have kk := k0 hg hdn ws
                  rw [hN] at kk
                  rw [toldN_else hix (fun hh => hh.1 h137), w1] at kk
                  have hX : hnX q.1.2.1 n fl x = swX q.1.2.1 (ndS (x.1, n, x.2.2) 3 q.1.2.1) := by unfold hnX; rw [if_pos h137, if_pos w2]; rfl
                  have hXu : hnU q.2.1 x = swU q.2.1 (ndS (x.1, n, x.2.2) 3 q.1.2.1) := by unfold hnU; rw [if_pos h137]; rfl
                  rw [hX, hXu] at kk
                  exact kk hS
            · refine zo_iconst (i := i_Mo_told) (pc := 122) (v := 1) d_Mo_told_122 (by decide) ?_
              refine zo_goto (i := i_Mo_told) (pc := 123) (tgt := 127) d_Mo_told_123 (by decide) ?_
              refine zo_istore (i := i_Mo_told) (pc := 127) d_Mo_told_127 (Nat.le_of_ble_eq_true rfl) ?_
              refine zo_aload_n (i := i_Mo_told) (pc := 129) d_Mo_told_129 rfl rfl ?_
              refine zo_get (i := i_Mo_told) (pc := 130) 10 22 rfl zok_Mo (Nat.le_of_ble_eq_true rfl) (ztb_of k_880 rfl) d_Mo_told_130 (fun _ _ _ h => h) (hs.get (t := 0) rfl) rfl ?_
              refine zo_iload (i := i_Mo_told) (pc := 133) d_Mo_told_133 rfl ?_
              refine zo_iaload (i := i_Mo_told) (pc := 135) d_Mo_told_135 (hs.get (t := 12) rfl) (vp_in_nI (by omega) (by decide)) ?_
              refine zo_iconst (i := i_Mo_told) (pc := 136) (v := 1) d_Mo_told_136 (by decide) ?_
              refine zo_icmp_ne (i := i_Mo_told) (pc := 137) (tgt := 191) d_Mo_told_137 (by decide) (fun h137 => ?_) (fun h137 => ?_)
              · refine zo_iload (i := i_Mo_told) (pc := 191) d_Mo_told_191 rfl ?_
                refine zo_if_eq (i := i_Mo_told) (pc := 193) (tgt := 223) d_Mo_told_193 (by decide) (fun h193 => False.elim (by first | exact absurd h193 ((by decide)) | exact absurd ((by decide)) h193)) (fun h193 => ?_)
                refine zo_iload_n (i := i_Mo_told) (pc := 196) d_Mo_told_196 rfl ?_
                refine zo_iconst (i := i_Mo_told) (pc := 197) (v := 4) d_Mo_told_197 (by decide) ?_
                refine zo_iand (i := i_Mo_told) (pc := 198) d_Mo_told_198 ?_
                refine zo_if_ne (i := i_Mo_told) (pc := 199) (tgt := 223) d_Mo_told_199 (by decide) (fun h199 => ?_) (fun h199 => ?_)
                · refine zo_aload_n (i := i_Mo_told) (pc := 223) d_Mo_told_223 rfl rfl ?_
                  refine zo_get (i := i_Mo_told) (pc := 224) 10 20 rfl zok_Mo (Nat.le_of_ble_eq_true rfl) (ztb_of k_878 rfl) d_Mo_told_224 (fun _ _ _ h => h) (hs.get (t := 0) rfl) rfl ?_
                  refine zo_iload (i := i_Mo_told) (pc := 227) d_Mo_told_227 rfl ?_
                  refine zo_iload_n (i := i_Mo_told) (pc := 229) d_Mo_told_229 rfl ?_
                  refine zh_iastore (i := i_Mo_told) (pc := 230) d_Mo_told_230 hs 10 rfl (vp_in_nI (by omega) (by decide)) fun ws hs => ?_
                  replace hs : zHas ws (moW g B m (mup F 20 (upd (F 20) (nI j).toNatClampNeg n)) ++ R) := hs
                  rw [nI_clamp (show j < 2 ^ 31 by omega)] at hs
                  have hr1 : mR (foc q j x q.2.1) 0 m F := by rw [foc_self hx]; exact hr
                  have hS : mS g B (foc q j (x.1, n, x.2.2) q.2.1) 0 R ws := ⟨_, _, foc_number hr1 hjl, hs⟩
                  obtain ⟨m1, F1, hr2, hs⟩ := id hS
                  refine zo_iload (i := i_Mo_told) (pc := 231) d_Mo_told_231 rfl ?_
                  refine zo_if_eq (i := i_Mo_told) (pc := 233) (tgt := 246) d_Mo_told_233 (by decide) (fun h233 => ?_) (fun h233 => False.elim (by first | exact absurd h233 (rfl) | exact absurd (rfl) h233))
                  refine zo_iload (i := i_Mo_told) (pc := 246) d_Mo_told_246 rfl ?_
                  refine zo_if_eq (i := i_Mo_told) (pc := 248) (tgt := 258) d_Mo_told_248 (by decide) (fun h248 => False.elim (by first | exact absurd h248 ((by decide)) | exact absurd ((by decide)) h248)) (fun h248 => ?_)
                  refine zo_aload_n (i := i_Mo_told) (pc := 251) d_Mo_told_251 rfl rfl ?_
                  refine zo_iload (i := i_Mo_told) (pc := 252) d_Mo_told_252 rfl ?_
                  refine zo_iconst (i := i_Mo_told) (pc := 254) (v := 3) d_Mo_told_254 (by decide) ?_
                  refine zc_V2 (i := i_Mo_told) (pc := 255) 10 rfl m_Mo_turn (ztb_of k_984 rfl) (ztb_of k_986 rfl) s_Mo_turn d_Mo_told_255 (Nat.le_of_ble_eq_true rfl) (Nat.le_of_ble_eq_true rfl) (Nat.le_of_ble_eq_true rfl) (Nat.le_of_ble_eq_true rfl) (hs.get (t := 0) rfl) (f_turn (s := 3) hS hjl fun ws hS => ?_)
                  obtain ⟨m1, F1, hr2, hs⟩ := id hS
                  refine zo_aload_n (i := i_Mo_told) (pc := 258) d_Mo_told_258 rfl rfl ?_
                  refine zo_iload (i := i_Mo_told) (pc := 259) d_Mo_told_259 rfl ?_
                  refine zo_iload_n (i := i_Mo_told) (pc := 261) d_Mo_told_261 rfl ?_
                  refine zo_iconst (i := i_Mo_told) (pc := 262) (v := 1) d_Mo_told_262 (by decide) ?_
                  refine zo_iand (i := i_Mo_told) (pc := 263) d_Mo_told_263 ?_
                  refine zo_iconst (i := i_Mo_told) (pc := 264) (v := 1) d_Mo_told_264 (by decide) ?_
                  refine zo_icmp_ne (i := i_Mo_told) (pc := 265) (tgt := 272) d_Mo_told_265 (by decide) (fun h265 => ?_) (fun h265 => ?_)
                  · refine zo_iconst (i := i_Mo_told) (pc := 272) (v := 0) d_Mo_told_272 (by decide) ?_
                    refine zc_V2 (i := i_Mo_told) (pc := 273) 10 rfl m_Mo_route (ztb_of k_1077 rfl) (ztb_of k_1079 rfl) s_Mo_route d_Mo_told_273 (Nat.le_of_ble_eq_true rfl) (Nat.le_of_ble_eq_true rfl) (Nat.le_of_ble_eq_true rfl) (Nat.le_of_ble_eq_true rfl) (hs.get (t := 0) rfl) (f_route false hS hjl a11 fun ws hS => ?_)
                    refine zo_return (i := i_Mo_told) (pc := 276) hq d_Mo_told_276 rfl (Nat.le_of_ble_eq_true rfl) (Nat.le_of_ble_eq_true rfl) ?_
                    rw [o20] at h119
                    rw [o22] at h137
                    have w2 : fl &&& 2 = 0 := Decidable.not_not.mp (fun hh => h101 ((fl1 hg.2.2).2.mpr hh))
                    have w1 : (!decide (fl &&& 1 = 0)) = false := by rw [decide_eq_true (Decidable.not_not.mp (fun hh => h265 ((fl1 hg.2.2).1.mpr hh)))]; rfl
                    have kk := k0 hg hdn ws
                    rw [hN] at kk
                    rw [toldN_else hix (fun hh => h199 hh.2.2), w1] at kk
                    have hXu : hnU q.2.1 x = q.2.1 := by unfold hnU; rw [if_neg h137]
                    have hX : hnX q.1.2.1 n fl x = ndS (x.1, n, x.2.2) 3 q.1.2.1 := by unfold hnX; rw [if_neg h137, if_pos w2, if_neg h119]
                    rw [hX, hXu] at kk
                    exact kk hS
                  · refine zo_iconst (i := i_Mo_told) (pc := 268) (v := 1) d_Mo_told_268 (by decide) ?_
                    refine zo_goto (i := i_Mo_told) (pc := 269) (tgt := 273) d_Mo_told_269 (by decide) ?_
                    refine zc_V2 (i := i_Mo_told) (pc := 273) 10 rfl m_Mo_route (ztb_of k_1077 rfl) (ztb_of k_1079 rfl) s_Mo_route d_Mo_told_273 (Nat.le_of_ble_eq_true rfl) (Nat.le_of_ble_eq_true rfl) (Nat.le_of_ble_eq_true rfl) (Nat.le_of_ble_eq_true rfl) (hs.get (t := 0) rfl) (f_route true hS hjl a11 fun ws hS => ?_)
                    refine zo_return (i := i_Mo_told) (pc := 276) hq d_Mo_told_276 rfl (Nat.le_of_ble_eq_true rfl) (Nat.le_of_ble_eq_true rfl) ?_
                    rw [o20] at h119
                    rw [o22] at h137
                    have w2 : fl &&& 2 = 0 := Decidable.not_not.mp (fun hh => h101 ((fl1 hg.2.2).2.mpr hh))
                    have w1 : (!decide (fl &&& 1 = 0)) = true := by rw [decide_eq_false ((fl1 hg.2.2).1.mp h265)]; rfl
                    have kk := k0 hg hdn ws
                    rw [hN] at kk
                    rw [toldN_else hix (fun hh => h199 hh.2.2), w1] at kk
                    have hXu : hnU q.2.1 x = q.2.1 := by unfold hnU; rw [if_neg h137]
                    have hX : hnX q.1.2.1 n fl x = ndS (x.1, n, x.2.2) 3 q.1.2.1 := by unfold hnX; rw [if_neg h137, if_pos w2, if_neg h119]
                    rw [hX, hXu] at kk
                    exact kk hS
                · refine zo_aload_n (i := i_Mo_told) (pc := 202) d_Mo_told_202 rfl rfl ?_
                  refine zo_get (i := i_Mo_told) (pc := 203) 10 22 rfl zok_Mo (Nat.le_of_ble_eq_true rfl) (ztb_of k_880 rfl) d_Mo_told_203 (fun _ _ _ h => h) (hs.get (t := 0) rfl) rfl ?_
                  refine zo_iload (i := i_Mo_told) (pc := 206) d_Mo_told_206 rfl ?_
                  refine zo_iaload (i := i_Mo_told) (pc := 208) d_Mo_told_208 (hs.get (t := 12) rfl) (vp_in_nI (by omega) (by decide)) ?_
                  refine zo_iconst (i := i_Mo_told) (pc := 209) (v := 2) d_Mo_told_209 (by decide) ?_
                  refine zo_icmp_ne (i := i_Mo_told) (pc := 210) (tgt := 276) d_Mo_told_210 (by decide) (fun h210 => ?_) (fun h210 => ?_)
                  · refine zo_return (i := i_Mo_told) (pc := 276) hq d_Mo_told_276 rfl (Nat.le_of_ble_eq_true rfl) (Nat.le_of_ble_eq_true rfl) ?_
                    rw [o20] at h119
                    rw [o22] at h137
                    have w2 : fl &&& 2 = 0 := Decidable.not_not.mp (fun hh => h101 ((fl1 hg.2.2).2.mpr hh))
                    have kk := k0 hg hdn ws
                    rw [hN] at kk
                    rw [o22] at h210
                    rw [toldN_if hix ⟨h137, h119, h199⟩] at kk
                    rw [if_neg h210, foc_self hx] at kk
                    exact kk ⟨_, _, hr, hs⟩
                  · refine zo_aload_n (i := i_Mo_told) (pc := 213) d_Mo_told_213 rfl rfl ?_
                    refine zo_iload (i := i_Mo_told) (pc := 214) d_Mo_told_214 rfl ?_
                    refine zo_iconst (i := i_Mo_told) (pc := 216) (v := 3) d_Mo_told_216 (by decide) ?_
                    refine zc_V2 (i := i_Mo_told) (pc := 217) 10 rfl m_Mo_turn (ztb_of k_984 rfl) (ztb_of k_986 rfl) s_Mo_turn d_Mo_told_217 (Nat.le_of_ble_eq_true rfl) (Nat.le_of_ble_eq_true rfl) (Nat.le_of_ble_eq_true rfl) (Nat.le_of_ble_eq_true rfl) (hs.get (t := 0) rfl) (l_turn ⟨_, _, hr, hs⟩ hx fun ws hS => ?_)
                    refine zo_goto (i := i_Mo_told) (pc := 220) (tgt := 276) d_Mo_told_220 (by decide) ?_
                    refine zo_return (i := i_Mo_told) (pc := 276) hq d_Mo_told_276 rfl (Nat.le_of_ble_eq_true rfl) (Nat.le_of_ble_eq_true rfl) ?_
                    rw [o20] at h119
                    rw [o22] at h137
                    have w2 : fl &&& 2 = 0 := Decidable.not_not.mp (fun hh => h101 ((fl1 hg.2.2).2.mpr hh))
                    have kk := k0 hg hdn ws
                    rw [hN] at kk
                    rw [o22] at h210
                    rw [toldN_if hix ⟨h137, h119, h199⟩] at kk
                    rw [if_pos h210] at kk
                    exact kk hS
              · refine zo_aload_n (i := i_Mo_told) (pc := 140) d_Mo_told_140 rfl rfl ?_
                refine zo_get (i := i_Mo_told) (pc := 141) 10 20 rfl zok_Mo (Nat.le_of_ble_eq_true rfl) (ztb_of k_878 rfl) d_Mo_told_141 (fun _ _ _ h => h) (hs.get (t := 0) rfl) rfl ?_
                refine zo_iload (i := i_Mo_told) (pc := 144) d_Mo_told_144 rfl ?_
                refine zo_iload_n (i := i_Mo_told) (pc := 146) d_Mo_told_146 rfl ?_
                refine zh_iastore (i := i_Mo_told) (pc := 147) d_Mo_told_147 hs 10 rfl (vp_in_nI (by omega) (by decide)) fun ws hs => ?_
                replace hs : zHas ws (moW g B m (mup F 20 (upd (F 20) (nI j).toNatClampNeg n)) ++ R) := hs
                rw [nI_clamp (show j < 2 ^ 31 by omega)] at hs
                have hr1 : mR (foc q j x q.2.1) 0 m F := by rw [foc_self hx]; exact hr
                have hS : mS g B (foc q j (x.1, n, x.2.2) q.2.1) 0 R ws := ⟨_, _, foc_number hr1 hjl, hs⟩
                obtain ⟨m1, F1, hr2, hs⟩ := id hS
                refine zo_aload_n (i := i_Mo_told) (pc := 148) d_Mo_told_148 rfl rfl ?_
                refine zo_iload (i := i_Mo_told) (pc := 149) d_Mo_told_149 rfl ?_
                refine zo_iload (i := i_Mo_told) (pc := 151) d_Mo_told_151 rfl ?_
                refine zo_if_eq (i := i_Mo_told) (pc := 153) (tgt := 160) d_Mo_told_153 (by decide) (fun h153 => ?_) (fun h153 => False.elim (by first | exact absurd h153 (rfl) | exact absurd (rfl) h153))
                refine zo_iconst (i := i_Mo_told) (pc := 160) (v := 3) d_Mo_told_160 (by decide) ?_
                refine zc_V2 (i := i_Mo_told) (pc := 161) 10 rfl m_Mo_turn (ztb_of k_984 rfl) (ztb_of k_986 rfl) s_Mo_turn d_Mo_told_161 (Nat.le_of_ble_eq_true rfl) (Nat.le_of_ble_eq_true rfl) (Nat.le_of_ble_eq_true rfl) (Nat.le_of_ble_eq_true rfl) (hs.get (t := 0) rfl) (f_turn (s := 3) hS hjl fun ws hS => ?_)
                obtain ⟨m1, F1, hr2, hs⟩ := id hS
                refine zo_aload_n (i := i_Mo_told) (pc := 164) d_Mo_told_164 rfl rfl ?_
                refine zo_iload (i := i_Mo_told) (pc := 165) d_Mo_told_165 rfl ?_
                refine zc_V1 (i := i_Mo_told) (pc := 167) 10 rfl m_Mo_release (ztb_of k_1020 rfl) (ztb_of k_1022 rfl) s_Mo_release d_Mo_told_167 (Nat.le_of_ble_eq_true rfl) (Nat.le_of_ble_eq_true rfl) (Nat.le_of_ble_eq_true rfl) (Nat.le_of_ble_eq_true rfl) (hs.get (t := 0) rfl) (f_release hS hjl (by omega) (by exact hxv.1) fun ws hS => ?_)
                obtain ⟨m1, F1, hr2, hs⟩ := id hS
                refine zo_aload_n (i := i_Mo_told) (pc := 170) d_Mo_told_170 rfl rfl ?_
                refine zo_iload (i := i_Mo_told) (pc := 171) d_Mo_told_171 rfl ?_
                refine zo_iload_n (i := i_Mo_told) (pc := 173) d_Mo_told_173 rfl ?_
                refine zo_iconst (i := i_Mo_told) (pc := 174) (v := 1) d_Mo_told_174 (by decide) ?_
                refine zo_iand (i := i_Mo_told) (pc := 175) d_Mo_told_175 ?_
                refine zo_iconst (i := i_Mo_told) (pc := 176) (v := 1) d_Mo_told_176 (by decide) ?_
                refine zo_icmp_ne (i := i_Mo_told) (pc := 177) (tgt := 184) d_Mo_told_177 (by decide) (fun h177 => ?_) (fun h177 => ?_)
                · refine zo_iconst (i := i_Mo_told) (pc := 184) (v := 0) d_Mo_told_184 (by decide) ?_
                  refine zc_V2 (i := i_Mo_told) (pc := 185) 10 rfl m_Mo_route (ztb_of k_1077 rfl) (ztb_of k_1079 rfl) s_Mo_route d_Mo_told_185 (Nat.le_of_ble_eq_true rfl) (Nat.le_of_ble_eq_true rfl) (Nat.le_of_ble_eq_true rfl) (Nat.le_of_ble_eq_true rfl) (hs.get (t := 0) rfl) (f_route false hS hjl a11 fun ws hS => ?_)
                  refine zo_goto (i := i_Mo_told) (pc := 188) (tgt := 276) d_Mo_told_188 (by decide) ?_
                  refine zo_return (i := i_Mo_told) (pc := 276) hq d_Mo_told_276 rfl (Nat.le_of_ble_eq_true rfl) (Nat.le_of_ble_eq_true rfl) ?_
                  rw [o20] at h119
                  rw [o22] at h137
                  have w2 : fl &&& 2 = 0 := Decidable.not_not.mp (fun hh => h101 ((fl1 hg.2.2).2.mpr hh))
                  have w1 : (!decide (fl &&& 1 = 0)) = false := by rw [decide_eq_true (Decidable.not_not.mp (fun hh => h177 ((fl1 hg.2.2).1.mpr hh)))]; rfl
                  have kk := k0 hg hdn ws
                  rw [hN] at kk
                  rw [toldN_else hix (fun hh => hh.1 h137), w1] at kk
                  have hX : hnX q.1.2.1 n fl x = swX q.1.2.1 (ndS (x.1, n, x.2.2) 3 q.1.2.1) := by unfold hnX; rw [if_pos h137, if_pos w2]; rfl
                  have hXu : hnU q.2.1 x = swU q.2.1 (ndS (x.1, n, x.2.2) 3 q.1.2.1) := by unfold hnU; rw [if_pos h137]; rfl
                  rw [hX, hXu] at kk
                  exact kk hS
                · refine zo_iconst (i := i_Mo_told) (pc := 180) (v := 1) d_Mo_told_180 (by decide) ?_
                  refine zo_goto (i := i_Mo_told) (pc := 181) (tgt := 185) d_Mo_told_181 (by decide) ?_
                  refine zc_V2 (i := i_Mo_told) (pc := 185) 10 rfl m_Mo_route (ztb_of k_1077 rfl) (ztb_of k_1079 rfl) s_Mo_route d_Mo_told_185 (Nat.le_of_ble_eq_true rfl) (Nat.le_of_ble_eq_true rfl) (Nat.le_of_ble_eq_true rfl) (Nat.le_of_ble_eq_true rfl) (hs.get (t := 0) rfl) (f_route true hS hjl a11 fun ws hS => ?_)
                  refine zo_goto (i := i_Mo_told) (pc := 188) (tgt := 276) d_Mo_told_188 (by decide) ?_
                  refine zo_return (i := i_Mo_told) (pc := 276) hq d_Mo_told_276 rfl (Nat.le_of_ble_eq_true rfl) (Nat.le_of_ble_eq_true rfl) ?_
                  rw [o20] at h119
                  rw [o22] at h137
                  have w2 : fl &&& 2 = 0 := Decidable.not_not.mp (fun hh => h101 ((fl1 hg.2.2).2.mpr hh))
                  have w1 : (!decide (fl &&& 1 = 0)) = true := by rw [decide_eq_false ((fl1 hg.2.2).1.mp h177)]; rfl
                  have kk := k0 hg hdn ws
                  rw [hN] at kk
                  rw [toldN_else hix (fun hh => hh.1 h137), w1] at kk
                  have hX : hnX q.1.2.1 n fl x = swX q.1.2.1 (ndS (x.1, n, x.2.2) 3 q.1.2.1) := by unfold hnX; rw [if_pos h137, if_pos w2]; rfl
                  have hXu : hnU q.2.1 x = swU q.2.1 (ndS (x.1, n, x.2.2) 3 q.1.2.1) := by unfold hnU; rw [if_pos h137]; rfl
                  rw [hX, hXu] at kk
                  exact kk hS
          · refine zo_iconst (i := i_Mo_told) (pc := 104) (v := 1) d_Mo_told_104 (by decide) ?_
            refine zo_goto (i := i_Mo_told) (pc := 105) (tgt := 109) d_Mo_told_105 (by decide) ?_
            refine zo_istore (i := i_Mo_told) (pc := 109) d_Mo_told_109 (Nat.le_of_ble_eq_true rfl) ?_
            refine zo_aload_n (i := i_Mo_told) (pc := 111) d_Mo_told_111 rfl rfl ?_
            refine zo_get (i := i_Mo_told) (pc := 112) 10 20 rfl zok_Mo (Nat.le_of_ble_eq_true rfl) (ztb_of k_878 rfl) d_Mo_told_112 (fun _ _ _ h => h) (hs.get (t := 0) rfl) rfl ?_
            refine zo_iload (i := i_Mo_told) (pc := 115) d_Mo_told_115 rfl ?_
            refine zo_iaload (i := i_Mo_told) (pc := 117) d_Mo_told_117 (hs.get (t := 10) rfl) (vp_in_nI (by omega) (by decide)) ?_
            refine zo_iload_n (i := i_Mo_told) (pc := 118) d_Mo_told_118 rfl ?_
            refine zo_icmp_eq (i := i_Mo_told) (pc := 119) (tgt := 126) d_Mo_told_119 (by decide) (fun h119 => ?_) (fun h119 => ?_)
            · refine zo_iconst (i := i_Mo_told) (pc := 126) (v := 0) d_Mo_told_126 (by decide) ?_
              refine zo_istore (i := i_Mo_told) (pc := 127) d_Mo_told_127 (Nat.le_of_ble_eq_true rfl) ?_
              refine zo_aload_n (i := i_Mo_told) (pc := 129) d_Mo_told_129 rfl rfl ?_
              refine zo_get (i := i_Mo_told) (pc := 130) 10 22 rfl zok_Mo (Nat.le_of_ble_eq_true rfl) (ztb_of k_880 rfl) d_Mo_told_130 (fun _ _ _ h => h) (hs.get (t := 0) rfl) rfl ?_
              refine zo_iload (i := i_Mo_told) (pc := 133) d_Mo_told_133 rfl ?_
              refine zo_iaload (i := i_Mo_told) (pc := 135) d_Mo_told_135 (hs.get (t := 12) rfl) (vp_in_nI (by omega) (by decide)) ?_
              refine zo_iconst (i := i_Mo_told) (pc := 136) (v := 1) d_Mo_told_136 (by decide) ?_
              refine zo_icmp_ne (i := i_Mo_told) (pc := 137) (tgt := 191) d_Mo_told_137 (by decide) (fun h137 => ?_) (fun h137 => ?_)
              · refine zo_iload (i := i_Mo_told) (pc := 191) d_Mo_told_191 rfl ?_
                refine zo_if_eq (i := i_Mo_told) (pc := 193) (tgt := 223) d_Mo_told_193 (by decide) (fun h193 => ?_) (fun h193 => False.elim (by first | exact absurd h193 (rfl) | exact absurd (rfl) h193))
                refine zo_aload_n (i := i_Mo_told) (pc := 223) d_Mo_told_223 rfl rfl ?_
                refine zo_get (i := i_Mo_told) (pc := 224) 10 20 rfl zok_Mo (Nat.le_of_ble_eq_true rfl) (ztb_of k_878 rfl) d_Mo_told_224 (fun _ _ _ h => h) (hs.get (t := 0) rfl) rfl ?_
                refine zo_iload (i := i_Mo_told) (pc := 227) d_Mo_told_227 rfl ?_
                refine zo_iload_n (i := i_Mo_told) (pc := 229) d_Mo_told_229 rfl ?_
                refine zh_iastore (i := i_Mo_told) (pc := 230) d_Mo_told_230 hs 10 rfl (vp_in_nI (by omega) (by decide)) fun ws hs => ?_
                replace hs : zHas ws (moW g B m (mup F 20 (upd (F 20) (nI j).toNatClampNeg n)) ++ R) := hs
                rw [nI_clamp (show j < 2 ^ 31 by omega)] at hs
                have hr1 : mR (foc q j x q.2.1) 0 m F := by rw [foc_self hx]; exact hr
                have hS : mS g B (foc q j (x.1, n, x.2.2) q.2.1) 0 R ws := ⟨_, _, foc_number hr1 hjl, hs⟩
                obtain ⟨m1, F1, hr2, hs⟩ := id hS
                refine zo_iload (i := i_Mo_told) (pc := 231) d_Mo_told_231 rfl ?_
                refine zo_if_eq (i := i_Mo_told) (pc := 233) (tgt := 246) d_Mo_told_233 (by decide) (fun h233 => False.elim (by first | exact absurd h233 ((by decide)) | exact absurd ((by decide)) h233)) (fun h233 => ?_)
                refine zo_aload_n (i := i_Mo_told) (pc := 236) d_Mo_told_236 rfl rfl ?_
                refine zo_iload (i := i_Mo_told) (pc := 237) d_Mo_told_237 rfl ?_
                refine zo_iconst (i := i_Mo_told) (pc := 239) (v := 2) d_Mo_told_239 (by decide) ?_
                refine zc_V2 (i := i_Mo_told) (pc := 240) 10 rfl m_Mo_turn (ztb_of k_984 rfl) (ztb_of k_986 rfl) s_Mo_turn d_Mo_told_240 (Nat.le_of_ble_eq_true rfl) (Nat.le_of_ble_eq_true rfl) (Nat.le_of_ble_eq_true rfl) (Nat.le_of_ble_eq_true rfl) (hs.get (t := 0) rfl) (f_turn (s := 2) hS hjl fun ws hS => ?_)
                obtain ⟨m1, F1, hr2, hs⟩ := id hS
                refine zo_goto (i := i_Mo_told) (pc := 243) (tgt := 258) d_Mo_told_243 (by decide) ?_
                refine zo_aload_n (i := i_Mo_told) (pc := 258) d_Mo_told_258 rfl rfl ?_
                refine zo_iload (i := i_Mo_told) (pc := 259) d_Mo_told_259 rfl ?_
                refine zo_iload_n (i := i_Mo_told) (pc := 261) d_Mo_told_261 rfl ?_
                refine zo_iconst (i := i_Mo_told) (pc := 262) (v := 1) d_Mo_told_262 (by decide) ?_
                refine zo_iand (i := i_Mo_told) (pc := 263) d_Mo_told_263 ?_
                refine zo_iconst (i := i_Mo_told) (pc := 264) (v := 1) d_Mo_told_264 (by decide) ?_
                refine zo_icmp_ne (i := i_Mo_told) (pc := 265) (tgt := 272) d_Mo_told_265 (by decide) (fun h265 => ?_) (fun h265 => ?_)
                · refine zo_iconst (i := i_Mo_told) (pc := 272) (v := 0) d_Mo_told_272 (by decide) ?_
                  refine zc_V2 (i := i_Mo_told) (pc := 273) 10 rfl m_Mo_route (ztb_of k_1077 rfl) (ztb_of k_1079 rfl) s_Mo_route d_Mo_told_273 (Nat.le_of_ble_eq_true rfl) (Nat.le_of_ble_eq_true rfl) (Nat.le_of_ble_eq_true rfl) (Nat.le_of_ble_eq_true rfl) (hs.get (t := 0) rfl) (f_route false hS hjl a11 fun ws hS => ?_)
                  refine zo_return (i := i_Mo_told) (pc := 276) hq d_Mo_told_276 rfl (Nat.le_of_ble_eq_true rfl) (Nat.le_of_ble_eq_true rfl) ?_
                  rw [o20] at h119
                  rw [o22] at h137
                  have w2 : ¬ fl &&& 2 = 0 := (fl1 hg.2.2).2.mp h101
                  have w1 : (!decide (fl &&& 1 = 0)) = false := by rw [decide_eq_true (Decidable.not_not.mp (fun hh => h265 ((fl1 hg.2.2).1.mpr hh)))]; rfl
                  have kk := k0 hg hdn ws
                  rw [hN] at kk
                  rw [toldN_else hix (fun hh => hh.2.1 h119), w1] at kk
                  have hXu : hnU q.2.1 x = q.2.1 := by unfold hnU; rw [if_neg h137]
                  have hX : hnX q.1.2.1 n fl x = ndS (x.1, n, x.2.2) 2 q.1.2.1 := by unfold hnX; rw [if_neg h137, if_neg w2]
                  rw [hX, hXu] at kk
                  exact kk hS
                · refine zo_iconst (i := i_Mo_told) (pc := 268) (v := 1) d_Mo_told_268 (by decide) ?_
                  refine zo_goto (i := i_Mo_told) (pc := 269) (tgt := 273) d_Mo_told_269 (by decide) ?_
                  refine zc_V2 (i := i_Mo_told) (pc := 273) 10 rfl m_Mo_route (ztb_of k_1077 rfl) (ztb_of k_1079 rfl) s_Mo_route d_Mo_told_273 (Nat.le_of_ble_eq_true rfl) (Nat.le_of_ble_eq_true rfl) (Nat.le_of_ble_eq_true rfl) (Nat.le_of_ble_eq_true rfl) (hs.get (t := 0) rfl) (f_route true hS hjl a11 fun ws hS => ?_)
                  refine zo_return (i := i_Mo_told) (pc := 276) hq d_Mo_told_276 rfl (Nat.le_of_ble_eq_true rfl) (Nat.le_of_ble_eq_true rfl) ?_
                  rw [o20] at h119
                  rw [o22] at h137
                  have w2 : ¬ fl &&& 2 = 0 := (fl1 hg.2.2).2.mp h101
                  have w1 : (!decide (fl &&& 1 = 0)) = true := by rw [decide_eq_false ((fl1 hg.2.2).1.mp h265)]; rfl
                  have kk := k0 hg hdn ws
                  rw [hN] at kk
                  rw [toldN_else hix (fun hh => hh.2.1 h119), w1] at kk
                  have hXu : hnU q.2.1 x = q.2.1 := by unfold hnU; rw [if_neg h137]
                  have hX : hnX q.1.2.1 n fl x = ndS (x.1, n, x.2.2) 2 q.1.2.1 := by unfold hnX; rw [if_neg h137, if_neg w2]
                  rw [hX, hXu] at kk
                  exact kk hS
              · refine zo_aload_n (i := i_Mo_told) (pc := 140) d_Mo_told_140 rfl rfl ?_
                refine zo_get (i := i_Mo_told) (pc := 141) 10 20 rfl zok_Mo (Nat.le_of_ble_eq_true rfl) (ztb_of k_878 rfl) d_Mo_told_141 (fun _ _ _ h => h) (hs.get (t := 0) rfl) rfl ?_
                refine zo_iload (i := i_Mo_told) (pc := 144) d_Mo_told_144 rfl ?_
                refine zo_iload_n (i := i_Mo_told) (pc := 146) d_Mo_told_146 rfl ?_
                refine zh_iastore (i := i_Mo_told) (pc := 147) d_Mo_told_147 hs 10 rfl (vp_in_nI (by omega) (by decide)) fun ws hs => ?_
                replace hs : zHas ws (moW g B m (mup F 20 (upd (F 20) (nI j).toNatClampNeg n)) ++ R) := hs
                rw [nI_clamp (show j < 2 ^ 31 by omega)] at hs
                have hr1 : mR (foc q j x q.2.1) 0 m F := by rw [foc_self hx]; exact hr
                have hS : mS g B (foc q j (x.1, n, x.2.2) q.2.1) 0 R ws := ⟨_, _, foc_number hr1 hjl, hs⟩
                obtain ⟨m1, F1, hr2, hs⟩ := id hS
                refine zo_aload_n (i := i_Mo_told) (pc := 148) d_Mo_told_148 rfl rfl ?_
                refine zo_iload (i := i_Mo_told) (pc := 149) d_Mo_told_149 rfl ?_
                refine zo_iload (i := i_Mo_told) (pc := 151) d_Mo_told_151 rfl ?_
                refine zo_if_eq (i := i_Mo_told) (pc := 153) (tgt := 160) d_Mo_told_153 (by decide) (fun h153 => False.elim (by first | exact absurd h153 ((by decide)) | exact absurd ((by decide)) h153)) (fun h153 => ?_)
                refine zo_iconst (i := i_Mo_told) (pc := 156) (v := 2) d_Mo_told_156 (by decide) ?_
                refine zo_goto (i := i_Mo_told) (pc := 157) (tgt := 161) d_Mo_told_157 (by decide) ?_
                refine zc_V2 (i := i_Mo_told) (pc := 161) 10 rfl m_Mo_turn (ztb_of k_984 rfl) (ztb_of k_986 rfl) s_Mo_turn d_Mo_told_161 (Nat.le_of_ble_eq_true rfl) (Nat.le_of_ble_eq_true rfl) (Nat.le_of_ble_eq_true rfl) (Nat.le_of_ble_eq_true rfl) (hs.get (t := 0) rfl) (f_turn (s := 2) hS hjl fun ws hS => ?_)
                obtain ⟨m1, F1, hr2, hs⟩ := id hS
                refine zo_aload_n (i := i_Mo_told) (pc := 164) d_Mo_told_164 rfl rfl ?_
                refine zo_iload (i := i_Mo_told) (pc := 165) d_Mo_told_165 rfl ?_
                refine zc_V1 (i := i_Mo_told) (pc := 167) 10 rfl m_Mo_release (ztb_of k_1020 rfl) (ztb_of k_1022 rfl) s_Mo_release d_Mo_told_167 (Nat.le_of_ble_eq_true rfl) (Nat.le_of_ble_eq_true rfl) (Nat.le_of_ble_eq_true rfl) (Nat.le_of_ble_eq_true rfl) (hs.get (t := 0) rfl) (f_release hS hjl (by omega) (by exact hxv.1) fun ws hS => ?_)
                obtain ⟨m1, F1, hr2, hs⟩ := id hS
                refine zo_aload_n (i := i_Mo_told) (pc := 170) d_Mo_told_170 rfl rfl ?_
                refine zo_iload (i := i_Mo_told) (pc := 171) d_Mo_told_171 rfl ?_
                refine zo_iload_n (i := i_Mo_told) (pc := 173) d_Mo_told_173 rfl ?_
                refine zo_iconst (i := i_Mo_told) (pc := 174) (v := 1) d_Mo_told_174 (by decide) ?_
                refine zo_iand (i := i_Mo_told) (pc := 175) d_Mo_told_175 ?_
                refine zo_iconst (i := i_Mo_told) (pc := 176) (v := 1) d_Mo_told_176 (by decide) ?_
                refine zo_icmp_ne (i := i_Mo_told) (pc := 177) (tgt := 184) d_Mo_told_177 (by decide) (fun h177 => ?_) (fun h177 => ?_)
                · refine zo_iconst (i := i_Mo_told) (pc := 184) (v := 0) d_Mo_told_184 (by decide) ?_
                  refine zc_V2 (i := i_Mo_told) (pc := 185) 10 rfl m_Mo_route (ztb_of k_1077 rfl) (ztb_of k_1079 rfl) s_Mo_route d_Mo_told_185 (Nat.le_of_ble_eq_true rfl) (Nat.le_of_ble_eq_true rfl) (Nat.le_of_ble_eq_true rfl) (Nat.le_of_ble_eq_true rfl) (hs.get (t := 0) rfl) (f_route false hS hjl a11 fun ws hS => ?_)
                  refine zo_goto (i := i_Mo_told) (pc := 188) (tgt := 276) d_Mo_told_188 (by decide) ?_
                  refine zo_return (i := i_Mo_told) (pc := 276) hq d_Mo_told_276 rfl (Nat.le_of_ble_eq_true rfl) (Nat.le_of_ble_eq_true rfl) ?_
                  rw [o20] at h119
                  rw [o22] at h137
                  have w2 : ¬ fl &&& 2 = 0 := (fl1 hg.2.2).2.mp h101
                  have w1 : (!decide (fl &&& 1 = 0)) = false := by rw [decide_eq_true (Decidable.not_not.mp (fun hh => h177 ((fl1 hg.2.2).1.mpr hh)))]; rfl
                  have kk := k0 hg hdn ws
                  rw [hN] at kk
                  rw [toldN_else hix (fun hh => hh.1 h137), w1] at kk
                  have hX : hnX q.1.2.1 n fl x = swX q.1.2.1 (ndS (x.1, n, x.2.2) 2 q.1.2.1) := by unfold hnX; rw [if_pos h137, if_neg w2]; rfl
                  have hXu : hnU q.2.1 x = swU q.2.1 (ndS (x.1, n, x.2.2) 2 q.1.2.1) := by unfold hnU; rw [if_pos h137]; rfl
                  rw [hX, hXu] at kk
                  exact kk hS
                · refine zo_iconst (i := i_Mo_told) (pc := 180) (v := 1) d_Mo_told_180 (by decide) ?_
                  refine zo_goto (i := i_Mo_told) (pc := 181) (tgt := 185) d_Mo_told_181 (by decide) ?_
                  refine zc_V2 (i := i_Mo_told) (pc := 185) 10 rfl m_Mo_route (ztb_of k_1077 rfl) (ztb_of k_1079 rfl) s_Mo_route d_Mo_told_185 (Nat.le_of_ble_eq_true rfl) (Nat.le_of_ble_eq_true rfl) (Nat.le_of_ble_eq_true rfl) (Nat.le_of_ble_eq_true rfl) (hs.get (t := 0) rfl) (f_route true hS hjl a11 fun ws hS => ?_)
                  refine zo_goto (i := i_Mo_told) (pc := 188) (tgt := 276) d_Mo_told_188 (by decide) ?_
                  refine zo_return (i := i_Mo_told) (pc := 276) hq d_Mo_told_276 rfl (Nat.le_of_ble_eq_true rfl) (Nat.le_of_ble_eq_true rfl) ?_
                  rw [o20] at h119
                  rw [o22] at h137
                  have w2 : ¬ fl &&& 2 = 0 := (fl1 hg.2.2).2.mp h101
                  have w1 : (!decide (fl &&& 1 = 0)) = true := by rw [decide_eq_false ((fl1 hg.2.2).1.mp h177)]; rfl
                  have kk := k0 hg hdn ws
                  rw [hN] at kk
                  rw [toldN_else hix (fun hh => hh.1 h137), w1] at kk
                  have hX : hnX q.1.2.1 n fl x = swX q.1.2.1 (ndS (x.1, n, x.2.2) 2 q.1.2.1) := by unfold hnX; rw [if_pos h137, if_neg w2]; rfl
                  have hXu : hnU q.2.1 x = swU q.2.1 (ndS (x.1, n, x.2.2) 2 q.1.2.1) := by unfold hnU; rw [if_pos h137]; rfl
                  rw [hX, hXu] at kk
                  exact kk hS
            · refine zo_iconst (i := i_Mo_told) (pc := 122) (v := 1) d_Mo_told_122 (by decide) ?_
              refine zo_goto (i := i_Mo_told) (pc := 123) (tgt := 127) d_Mo_told_123 (by decide) ?_
              refine zo_istore (i := i_Mo_told) (pc := 127) d_Mo_told_127 (Nat.le_of_ble_eq_true rfl) ?_
              refine zo_aload_n (i := i_Mo_told) (pc := 129) d_Mo_told_129 rfl rfl ?_
              refine zo_get (i := i_Mo_told) (pc := 130) 10 22 rfl zok_Mo (Nat.le_of_ble_eq_true rfl) (ztb_of k_880 rfl) d_Mo_told_130 (fun _ _ _ h => h) (hs.get (t := 0) rfl) rfl ?_
              refine zo_iload (i := i_Mo_told) (pc := 133) d_Mo_told_133 rfl ?_
              refine zo_iaload (i := i_Mo_told) (pc := 135) d_Mo_told_135 (hs.get (t := 12) rfl) (vp_in_nI (by omega) (by decide)) ?_
              refine zo_iconst (i := i_Mo_told) (pc := 136) (v := 1) d_Mo_told_136 (by decide) ?_
              refine zo_icmp_ne (i := i_Mo_told) (pc := 137) (tgt := 191) d_Mo_told_137 (by decide) (fun h137 => ?_) (fun h137 => ?_)
              · refine zo_iload (i := i_Mo_told) (pc := 191) d_Mo_told_191 rfl ?_
                refine zo_if_eq (i := i_Mo_told) (pc := 193) (tgt := 223) d_Mo_told_193 (by decide) (fun h193 => False.elim (by first | exact absurd h193 ((by decide)) | exact absurd ((by decide)) h193)) (fun h193 => ?_)
                refine zo_iload_n (i := i_Mo_told) (pc := 196) d_Mo_told_196 rfl ?_
                refine zo_iconst (i := i_Mo_told) (pc := 197) (v := 4) d_Mo_told_197 (by decide) ?_
                refine zo_iand (i := i_Mo_told) (pc := 198) d_Mo_told_198 ?_
                refine zo_if_ne (i := i_Mo_told) (pc := 199) (tgt := 223) d_Mo_told_199 (by decide) (fun h199 => ?_) (fun h199 => ?_)
                · refine zo_aload_n (i := i_Mo_told) (pc := 223) d_Mo_told_223 rfl rfl ?_
                  refine zo_get (i := i_Mo_told) (pc := 224) 10 20 rfl zok_Mo (Nat.le_of_ble_eq_true rfl) (ztb_of k_878 rfl) d_Mo_told_224 (fun _ _ _ h => h) (hs.get (t := 0) rfl) rfl ?_
                  refine zo_iload (i := i_Mo_told) (pc := 227) d_Mo_told_227 rfl ?_
                  refine zo_iload_n (i := i_Mo_told) (pc := 229) d_Mo_told_229 rfl ?_
                  refine zh_iastore (i := i_Mo_told) (pc := 230) d_Mo_told_230 hs 10 rfl (vp_in_nI (by omega) (by decide)) fun ws hs => ?_
                  replace hs : zHas ws (moW g B m (mup F 20 (upd (F 20) (nI j).toNatClampNeg n)) ++ R) := hs
                  rw [nI_clamp (show j < 2 ^ 31 by omega)] at hs
                  have hr1 : mR (foc q j x q.2.1) 0 m F := by rw [foc_self hx]; exact hr
                  have hS : mS g B (foc q j (x.1, n, x.2.2) q.2.1) 0 R ws := ⟨_, _, foc_number hr1 hjl, hs⟩
                  obtain ⟨m1, F1, hr2, hs⟩ := id hS
                  refine zo_iload (i := i_Mo_told) (pc := 231) d_Mo_told_231 rfl ?_
                  refine zo_if_eq (i := i_Mo_told) (pc := 233) (tgt := 246) d_Mo_told_233 (by decide) (fun h233 => False.elim (by first | exact absurd h233 ((by decide)) | exact absurd ((by decide)) h233)) (fun h233 => ?_)
                  refine zo_aload_n (i := i_Mo_told) (pc := 236) d_Mo_told_236 rfl rfl ?_
                  refine zo_iload (i := i_Mo_told) (pc := 237) d_Mo_told_237 rfl ?_
                  refine zo_iconst (i := i_Mo_told) (pc := 239) (v := 2) d_Mo_told_239 (by decide) ?_
                  refine zc_V2 (i := i_Mo_told) (pc := 240) 10 rfl m_Mo_turn (ztb_of k_984 rfl) (ztb_of k_986 rfl) s_Mo_turn d_Mo_told_240 (Nat.le_of_ble_eq_true rfl) (Nat.le_of_ble_eq_true rfl) (Nat.le_of_ble_eq_true rfl) (Nat.le_of_ble_eq_true rfl) (hs.get (t := 0) rfl) (f_turn (s := 2) hS hjl fun ws hS => ?_)
                  obtain ⟨m1, F1, hr2, hs⟩ := id hS
                  refine zo_goto (i := i_Mo_told) (pc := 243) (tgt := 258) d_Mo_told_243 (by decide) ?_
                  refine zo_aload_n (i := i_Mo_told) (pc := 258) d_Mo_told_258 rfl rfl ?_
                  refine zo_iload (i := i_Mo_told) (pc := 259) d_Mo_told_259 rfl ?_
                  refine zo_iload_n (i := i_Mo_told) (pc := 261) d_Mo_told_261 rfl ?_
                  refine zo_iconst (i := i_Mo_told) (pc := 262) (v := 1) d_Mo_told_262 (by decide) ?_
                  refine zo_iand (i := i_Mo_told) (pc := 263) d_Mo_told_263 ?_
                  refine zo_iconst (i := i_Mo_told) (pc := 264) (v := 1) d_Mo_told_264 (by decide) ?_
                  refine zo_icmp_ne (i := i_Mo_told) (pc := 265) (tgt := 272) d_Mo_told_265 (by decide) (fun h265 => ?_) (fun h265 => ?_)
                  · refine zo_iconst (i := i_Mo_told) (pc := 272) (v := 0) d_Mo_told_272 (by decide) ?_
                    refine zc_V2 (i := i_Mo_told) (pc := 273) 10 rfl m_Mo_route (ztb_of k_1077 rfl) (ztb_of k_1079 rfl) s_Mo_route d_Mo_told_273 (Nat.le_of_ble_eq_true rfl) (Nat.le_of_ble_eq_true rfl) (Nat.le_of_ble_eq_true rfl) (Nat.le_of_ble_eq_true rfl) (hs.get (t := 0) rfl) (f_route false hS hjl a11 fun ws hS => ?_)
                    refine zo_return (i := i_Mo_told) (pc := 276) hq d_Mo_told_276 rfl (Nat.le_of_ble_eq_true rfl) (Nat.le_of_ble_eq_true rfl) ?_
                    rw [o20] at h119
                    rw [o22] at h137
                    have w2 : ¬ fl &&& 2 = 0 := (fl1 hg.2.2).2.mp h101
                    have w1 : (!decide (fl &&& 1 = 0)) = false := by rw [decide_eq_true (Decidable.not_not.mp (fun hh => h265 ((fl1 hg.2.2).1.mpr hh)))]; rfl
                    have kk := k0 hg hdn ws
                    rw [hN] at kk
                    rw [toldN_else hix (fun hh => h199 hh.2.2), w1] at kk
                    have hXu : hnU q.2.1 x = q.2.1 := by unfold hnU; rw [if_neg h137]
                    have hX : hnX q.1.2.1 n fl x = ndS (x.1, n, x.2.2) 2 q.1.2.1 := by unfold hnX; rw [if_neg h137, if_neg w2]
                    rw [hX, hXu] at kk
                    exact kk hS
                  · refine zo_iconst (i := i_Mo_told) (pc := 268) (v := 1) d_Mo_told_268 (by decide) ?_
                    refine zo_goto (i := i_Mo_told) (pc := 269) (tgt := 273) d_Mo_told_269 (by decide) ?_
                    refine zc_V2 (i := i_Mo_told) (pc := 273) 10 rfl m_Mo_route (ztb_of k_1077 rfl) (ztb_of k_1079 rfl) s_Mo_route d_Mo_told_273 (Nat.le_of_ble_eq_true rfl) (Nat.le_of_ble_eq_true rfl) (Nat.le_of_ble_eq_true rfl) (Nat.le_of_ble_eq_true rfl) (hs.get (t := 0) rfl) (f_route true hS hjl a11 fun ws hS => ?_)
                    refine zo_return (i := i_Mo_told) (pc := 276) hq d_Mo_told_276 rfl (Nat.le_of_ble_eq_true rfl) (Nat.le_of_ble_eq_true rfl) ?_
                    rw [o20] at h119
                    rw [o22] at h137
                    have w2 : ¬ fl &&& 2 = 0 := (fl1 hg.2.2).2.mp h101
                    have w1 : (!decide (fl &&& 1 = 0)) = true := by rw [decide_eq_false ((fl1 hg.2.2).1.mp h265)]; rfl
                    have kk := k0 hg hdn ws
                    rw [hN] at kk
                    rw [toldN_else hix (fun hh => h199 hh.2.2), w1] at kk
                    have hXu : hnU q.2.1 x = q.2.1 := by unfold hnU; rw [if_neg h137]
                    have hX : hnX q.1.2.1 n fl x = ndS (x.1, n, x.2.2) 2 q.1.2.1 := by unfold hnX; rw [if_neg h137, if_neg w2]
                    rw [hX, hXu] at kk
                    exact kk hS
                · refine zo_aload_n (i := i_Mo_told) (pc := 202) d_Mo_told_202 rfl rfl ?_
                  refine zo_get (i := i_Mo_told) (pc := 203) 10 22 rfl zok_Mo (Nat.le_of_ble_eq_true rfl) (ztb_of k_880 rfl) d_Mo_told_203 (fun _ _ _ h => h) (hs.get (t := 0) rfl) rfl ?_
                  refine zo_iload (i := i_Mo_told) (pc := 206) d_Mo_told_206 rfl ?_
                  refine zo_iaload (i := i_Mo_told) (pc := 208) d_Mo_told_208 (hs.get (t := 12) rfl) (vp_in_nI (by omega) (by decide)) ?_
                  refine zo_iconst (i := i_Mo_told) (pc := 209) (v := 2) d_Mo_told_209 (by decide) ?_
                  refine zo_icmp_ne (i := i_Mo_told) (pc := 210) (tgt := 276) d_Mo_told_210 (by decide) (fun h210 => ?_) (fun h210 => ?_)
                  · refine zo_return (i := i_Mo_told) (pc := 276) hq d_Mo_told_276 rfl (Nat.le_of_ble_eq_true rfl) (Nat.le_of_ble_eq_true rfl) ?_
                    rw [o20] at h119
                    rw [o22] at h137
                    have w2 : ¬ fl &&& 2 = 0 := (fl1 hg.2.2).2.mp h101
                    have kk := k0 hg hdn ws
                    rw [hN] at kk
                    rw [o22] at h210
                    rw [toldN_if hix ⟨h137, h119, h199⟩] at kk
                    rw [if_neg h210, foc_self hx] at kk
                    exact kk ⟨_, _, hr, hs⟩
                  · refine zo_aload_n (i := i_Mo_told) (pc := 213) d_Mo_told_213 rfl rfl ?_
                    refine zo_iload (i := i_Mo_told) (pc := 214) d_Mo_told_214 rfl ?_
                    refine zo_iconst (i := i_Mo_told) (pc := 216) (v := 3) d_Mo_told_216 (by decide) ?_
                    refine zc_V2 (i := i_Mo_told) (pc := 217) 10 rfl m_Mo_turn (ztb_of k_984 rfl) (ztb_of k_986 rfl) s_Mo_turn d_Mo_told_217 (Nat.le_of_ble_eq_true rfl) (Nat.le_of_ble_eq_true rfl) (Nat.le_of_ble_eq_true rfl) (Nat.le_of_ble_eq_true rfl) (hs.get (t := 0) rfl) (l_turn ⟨_, _, hr, hs⟩ hx fun ws hS => ?_)
                    refine zo_goto (i := i_Mo_told) (pc := 220) (tgt := 276) d_Mo_told_220 (by decide) ?_
                    refine zo_return (i := i_Mo_told) (pc := 276) hq d_Mo_told_276 rfl (Nat.le_of_ble_eq_true rfl) (Nat.le_of_ble_eq_true rfl) ?_
                    rw [o20] at h119
                    rw [o22] at h137
                    have w2 : ¬ fl &&& 2 = 0 := (fl1 hg.2.2).2.mp h101
                    have kk := k0 hg hdn ws
                    rw [hN] at kk
                    rw [o22] at h210
                    rw [toldN_if hix ⟨h137, h119, h199⟩] at kk
                    rw [if_pos h210] at kk
                    exact kk hS
              · refine zo_aload_n (i := i_Mo_told) (pc := 140) d_Mo_told_140 rfl rfl ?_
                refine zo_get (i := i_Mo_told) (pc := 141) 10 20 rfl zok_Mo (Nat.le_of_ble_eq_true rfl) (ztb_of k_878 rfl) d_Mo_told_141 (fun _ _ _ h => h) (hs.get (t := 0) rfl) rfl ?_
                refine zo_iload (i := i_Mo_told) (pc := 144) d_Mo_told_144 rfl ?_
                refine zo_iload_n (i := i_Mo_told) (pc := 146) d_Mo_told_146 rfl ?_
                refine zh_iastore (i := i_Mo_told) (pc := 147) d_Mo_told_147 hs 10 rfl (vp_in_nI (by omega) (by decide)) fun ws hs => ?_
                replace hs : zHas ws (moW g B m (mup F 20 (upd (F 20) (nI j).toNatClampNeg n)) ++ R) := hs
                rw [nI_clamp (show j < 2 ^ 31 by omega)] at hs
                have hr1 : mR (foc q j x q.2.1) 0 m F := by rw [foc_self hx]; exact hr
                have hS : mS g B (foc q j (x.1, n, x.2.2) q.2.1) 0 R ws := ⟨_, _, foc_number hr1 hjl, hs⟩
                obtain ⟨m1, F1, hr2, hs⟩ := id hS
                refine zo_aload_n (i := i_Mo_told) (pc := 148) d_Mo_told_148 rfl rfl ?_
                refine zo_iload (i := i_Mo_told) (pc := 149) d_Mo_told_149 rfl ?_
                refine zo_iload (i := i_Mo_told) (pc := 151) d_Mo_told_151 rfl ?_
                refine zo_if_eq (i := i_Mo_told) (pc := 153) (tgt := 160) d_Mo_told_153 (by decide) (fun h153 => False.elim (by first | exact absurd h153 ((by decide)) | exact absurd ((by decide)) h153)) (fun h153 => ?_)
                refine zo_iconst (i := i_Mo_told) (pc := 156) (v := 2) d_Mo_told_156 (by decide) ?_
                refine zo_goto (i := i_Mo_told) (pc := 157) (tgt := 161) d_Mo_told_157 (by decide) ?_
                refine zc_V2 (i := i_Mo_told) (pc := 161) 10 rfl m_Mo_turn (ztb_of k_984 rfl) (ztb_of k_986 rfl) s_Mo_turn d_Mo_told_161 (Nat.le_of_ble_eq_true rfl) (Nat.le_of_ble_eq_true rfl) (Nat.le_of_ble_eq_true rfl) (Nat.le_of_ble_eq_true rfl) (hs.get (t := 0) rfl) (f_turn (s := 2) hS hjl fun ws hS => ?_)
                obtain ⟨m1, F1, hr2, hs⟩ := id hS
                refine zo_aload_n (i := i_Mo_told) (pc := 164) d_Mo_told_164 rfl rfl ?_
                refine zo_iload (i := i_Mo_told) (pc := 165) d_Mo_told_165 rfl ?_
                refine zc_V1 (i := i_Mo_told) (pc := 167) 10 rfl m_Mo_release (ztb_of k_1020 rfl) (ztb_of k_1022 rfl) s_Mo_release d_Mo_told_167 (Nat.le_of_ble_eq_true rfl) (Nat.le_of_ble_eq_true rfl) (Nat.le_of_ble_eq_true rfl) (Nat.le_of_ble_eq_true rfl) (hs.get (t := 0) rfl) (f_release hS hjl (by omega) (by exact hxv.1) fun ws hS => ?_)
                obtain ⟨m1, F1, hr2, hs⟩ := id hS
                refine zo_aload_n (i := i_Mo_told) (pc := 170) d_Mo_told_170 rfl rfl ?_
                refine zo_iload (i := i_Mo_told) (pc := 171) d_Mo_told_171 rfl ?_
                refine zo_iload_n (i := i_Mo_told) (pc := 173) d_Mo_told_173 rfl ?_
                refine zo_iconst (i := i_Mo_told) (pc := 174) (v := 1) d_Mo_told_174 (by decide) ?_
                refine zo_iand (i := i_Mo_told) (pc := 175) d_Mo_told_175 ?_
                refine zo_iconst (i := i_Mo_told) (pc := 176) (v := 1) d_Mo_told_176 (by decide) ?_
                refine zo_icmp_ne (i := i_Mo_told) (pc := 177) (tgt := 184) d_Mo_told_177 (by decide) (fun h177 => ?_) (fun h177 => ?_)
                · refine zo_iconst (i := i_Mo_told) (pc := 184) (v := 0) d_Mo_told_184 (by decide) ?_
                  refine zc_V2 (i := i_Mo_told) (pc := 185) 10 rfl m_Mo_route (ztb_of k_1077 rfl) (ztb_of k_1079 rfl) s_Mo_route d_Mo_told_185 (Nat.le_of_ble_eq_true rfl) (Nat.le_of_ble_eq_true rfl) (Nat.le_of_ble_eq_true rfl) (Nat.le_of_ble_eq_true rfl) (hs.get (t := 0) rfl) (f_route false hS hjl a11 fun ws hS => ?_)
                  refine zo_goto (i := i_Mo_told) (pc := 188) (tgt := 276) d_Mo_told_188 (by decide) ?_
                  refine zo_return (i := i_Mo_told) (pc := 276) hq d_Mo_told_276 rfl (Nat.le_of_ble_eq_true rfl) (Nat.le_of_ble_eq_true rfl) ?_
                  rw [o20] at h119
                  rw [o22] at h137
                  have w2 : ¬ fl &&& 2 = 0 := (fl1 hg.2.2).2.mp h101
                  have w1 : (!decide (fl &&& 1 = 0)) = false := by rw [decide_eq_true (Decidable.not_not.mp (fun hh => h177 ((fl1 hg.2.2).1.mpr hh)))]; rfl
                  have kk := k0 hg hdn ws
                  rw [hN] at kk
                  rw [toldN_else hix (fun hh => hh.1 h137), w1] at kk
                  have hX : hnX q.1.2.1 n fl x = swX q.1.2.1 (ndS (x.1, n, x.2.2) 2 q.1.2.1) := by unfold hnX; rw [if_pos h137, if_neg w2]; rfl
                  have hXu : hnU q.2.1 x = swU q.2.1 (ndS (x.1, n, x.2.2) 2 q.1.2.1) := by unfold hnU; rw [if_pos h137]; rfl
                  rw [hX, hXu] at kk
                  exact kk hS
                · refine zo_iconst (i := i_Mo_told) (pc := 180) (v := 1) d_Mo_told_180 (by decide) ?_
                  refine zo_goto (i := i_Mo_told) (pc := 181) (tgt := 185) d_Mo_told_181 (by decide) ?_
                  refine zc_V2 (i := i_Mo_told) (pc := 185) 10 rfl m_Mo_route (ztb_of k_1077 rfl) (ztb_of k_1079 rfl) s_Mo_route d_Mo_told_185 (Nat.le_of_ble_eq_true rfl) (Nat.le_of_ble_eq_true rfl) (Nat.le_of_ble_eq_true rfl) (Nat.le_of_ble_eq_true rfl) (hs.get (t := 0) rfl) (f_route true hS hjl a11 fun ws hS => ?_)
                  refine zo_goto (i := i_Mo_told) (pc := 188) (tgt := 276) d_Mo_told_188 (by decide) ?_
                  refine zo_return (i := i_Mo_told) (pc := 276) hq d_Mo_told_276 rfl (Nat.le_of_ble_eq_true rfl) (Nat.le_of_ble_eq_true rfl) ?_
                  rw [o20] at h119
                  rw [o22] at h137
                  have w2 : ¬ fl &&& 2 = 0 := (fl1 hg.2.2).2.mp h101
                  have w1 : (!decide (fl &&& 1 = 0)) = true := by rw [decide_eq_false ((fl1 hg.2.2).1.mp h177)]; rfl
                  have kk := k0 hg hdn ws
                  rw [hN] at kk
                  rw [toldN_else hix (fun hh => hh.1 h137), w1] at kk
                  have hX : hnX q.1.2.1 n fl x = swX q.1.2.1 (ndS (x.1, n, x.2.2) 2 q.1.2.1) := by unfold hnX; rw [if_pos h137, if_neg w2]; rfl
                  have hXu : hnU q.2.1 x = swU q.2.1 (ndS (x.1, n, x.2.2) 2 q.1.2.1) := by unfold hnU; rw [if_pos h137]; rfl
                  rw [hX, hXu] at kk
                  exact kk hS
        · refine zo_istore (i := i_Mo_told) (pc := 89) d_Mo_told_89 (Nat.le_of_ble_eq_true rfl) ?_
          refine zo_iload (i := i_Mo_told) (pc := 91) d_Mo_told_91 rfl ?_
          refine zo_if_ge (i := i_Mo_told) (pc := 93) (tgt := 97) d_Mo_told_93 (by decide) (fun h93 => False.elim (by first | exact absurd h93 ((by decide)) | exact absurd ((by decide)) h93)) (fun h93 => ?_)
          refine zo_return (i := i_Mo_told) (pc := 96) hq d_Mo_told_96 rfl (Nat.le_of_ble_eq_true rfl) (Nat.le_of_ble_eq_true rfl) ?_
          have kk := k0 hg hdn ws
          rw [hN] at kk
          unfold toldN at kk
          rw [hf] at kk
          exact kk ⟨_, _, hr, hs⟩
      refine zo_aload_n (i := i_Mo_told) (pc := 54) d_Mo_told_54 rfl rfl ?_
      refine zo_iload_n (i := i_Mo_told) (pc := 55) d_Mo_told_55 rfl ?_
      refine zc_V1 (i := i_Mo_told) (pc := 56) 10 rfl m_Mo_ownAt (ztb_of k_1044 rfl) (ztb_of k_1046 rfl) s_Mo_ownAt d_Mo_told_56 (Nat.le_of_ble_eq_true rfl) (Nat.le_of_ble_eq_true rfl) (Nat.le_of_ble_eq_true rfl) (Nat.le_of_ble_eq_true rfl) (hs.get (t := 0) rfl) (l_ownAt ⟨_, _, hr, hs⟩ (fun j x hx hxa hf hset => ?_) (fun hf => ?_))
      · obtain ⟨o13, o14, o15, o16, o17, ho6⟩ := hr.ow hx
        refine zo_istore (i := i_Mo_told) (pc := 59) d_Mo_told_59 (Nat.le_of_ble_eq_true rfl) ?_
        refine zo_iload (i := i_Mo_told) (pc := 61) d_Mo_told_61 rfl ?_
        refine zo_if_lt (i := i_Mo_told) (pc := 63) (tgt := 84) d_Mo_told_63 (by decide) (fun h63 => False.elim (by first | exact absurd h63 ((nI_pos (by omega))) | exact absurd ((nI_pos (by omega))) h63)) (fun h63 => ?_)
        refine zo_aload_n (i := i_Mo_told) (pc := 66) d_Mo_told_66 rfl rfl ?_
        refine zo_get (i := i_Mo_told) (pc := 67) 10 14 rfl zok_Mo (Nat.le_of_ble_eq_true rfl) (ztb_of k_872 rfl) d_Mo_told_67 (fun _ _ _ h => h) (hs.get (t := 0) rfl) rfl ?_
        refine zo_iload (i := i_Mo_told) (pc := 70) d_Mo_told_70 rfl ?_
        refine zo_iaload (i := i_Mo_told) (pc := 72) d_Mo_told_72 (hs.get (t := 5) rfl) (vp_in_nI (by omega) (by decide)) ?_
        refine zo_iconst (i := i_Mo_told) (pc := 73) (v := 1) d_Mo_told_73 (by decide) ?_
        refine zo_icmp_ne (i := i_Mo_told) (pc := 74) (tgt := 84) d_Mo_told_74 (by decide) (fun h74 => ?_) (fun h74 => ?_)
        · rw [o14] at h74
          refine tail _ ws ?_ ⟨_, _, hr, hs⟩
          unfold toldT
          rw [hf]
          simp only
          rw [if_neg h74]
        · refine zo_aload_n (i := i_Mo_told) (pc := 77) d_Mo_told_77 rfl rfl ?_
          refine zo_iload (i := i_Mo_told) (pc := 78) d_Mo_told_78 rfl ?_
          refine zc_V1 (i := i_Mo_told) (pc := 80) 10 rfl m_Mo_contradict (ztb_of k_1061 rfl) (ztb_of k_1063 rfl) s_Mo_contradict d_Mo_told_80 (Nat.le_of_ble_eq_true rfl) (Nat.le_of_ble_eq_true rfl) (Nat.le_of_ble_eq_true rfl) (Nat.le_of_ble_eq_true rfl) (hs.get (t := 0) rfl) (l_contradict ⟨_, _, hr, hs⟩ hx fun ws hS => ?_)
          refine zo_return (i := i_Mo_told) (pc := 83) hq d_Mo_told_83 rfl (Nat.le_of_ble_eq_true rfl) (Nat.le_of_ble_eq_true rfl) ?_
          rw [o14] at h74
          have kk := k0 hg hdn ws
          unfold toldT at kk
          rw [hf] at kk
          simp only at kk
          rw [if_pos h74] at kk
          unfold dupT at kk
          rw [hset] at kk
          exact kk hS
      · refine zo_istore (i := i_Mo_told) (pc := 59) d_Mo_told_59 (Nat.le_of_ble_eq_true rfl) ?_
        refine zo_iload (i := i_Mo_told) (pc := 61) d_Mo_told_61 rfl ?_
        refine zo_if_lt (i := i_Mo_told) (pc := 63) (tgt := 84) d_Mo_told_63 (by decide) (fun h63 => ?_) (fun h63 => False.elim (by first | exact absurd h63 ((by decide)) | exact absurd ((by decide)) h63))
        refine tail _ ws ?_ ⟨_, _, hr, hs⟩
        unfold toldT
        rw [hf]
    · refine zo_aload_n (i := i_Mo_told) (pc := 0) d_Mo_told_0 rfl rfl ?_
      refine zo_aload_n (i := i_Mo_told) (pc := 1) d_Mo_told_1 rfl rfl ?_
      refine zo_iload_n (i := i_Mo_told) (pc := 2) d_Mo_told_2 rfl ?_
      refine zc_V1 (i := i_Mo_told) (pc := 3) 10 rfl m_Mo_isAddress (ztb_of k_1056 rfl) (ztb_of k_1058 rfl) s_Mo_isAddress d_Mo_told_3 (Nat.le_of_ble_eq_true rfl) (Nat.le_of_ble_eq_true rfl) (Nat.le_of_ble_eq_true rfl) (Nat.le_of_ble_eq_true rfl) (hs.get (t := 0) rfl) (c_Mo_isAddress ?_)
      refine zo_if_eq (i := i_Mo_told) (pc := 6) (tgt := 27) d_Mo_told_6 (by decide) (fun h6 => False.elim (by first | exact absurd h6 ((by rw [hg.1]; decide)) | exact absurd ((by rw [hg.1]; decide)) h6)) (fun h6 => ?_)
      refine zo_aload_n (i := i_Mo_told) (pc := 9) d_Mo_told_9 rfl rfl ?_
      refine zo_iload_n (i := i_Mo_told) (pc := 10) d_Mo_told_10 rfl ?_
      refine zc_V1 (i := i_Mo_told) (pc := 11) 10 rfl m_Mo_isNumber (ztb_of k_1004 rfl) (ztb_of k_1006 rfl) s_Mo_isNumber d_Mo_told_11 (Nat.le_of_ble_eq_true rfl) (Nat.le_of_ble_eq_true rfl) (Nat.le_of_ble_eq_true rfl) (Nat.le_of_ble_eq_true rfl) (hs.get (t := 0) rfl) (c_Mo_isNumber ?_)
      refine zo_if_eq (i := i_Mo_told) (pc := 14) (tgt := 27) d_Mo_told_14 (by decide) (fun h14 => False.elim (by first | exact absurd h14 ((by rw [hg.2.1]; decide)) | exact absurd ((by rw [hg.2.1]; decide)) h14)) (fun h14 => ?_)
      refine zo_iload_n (i := i_Mo_told) (pc := 17) d_Mo_told_17 rfl ?_
      refine zo_if_lt (i := i_Mo_told) (pc := 18) (tgt := 27) d_Mo_told_18 (by decide) (fun h18 => False.elim (by first | exact absurd h18 ((zw_iff.mp hg.2.2).1) | exact absurd ((zw_iff.mp hg.2.2).1) h18)) (fun h18 => ?_)
      refine zo_iload_n (i := i_Mo_told) (pc := 21) d_Mo_told_21 rfl ?_
      refine zo_bipush (i := i_Mo_told) (pc := 22) (v := 7) d_Mo_told_22 (by decide) ?_
      refine zo_icmp_le (i := i_Mo_told) (pc := 24) (tgt := 31) d_Mo_told_24 (by decide) (fun h24 => ?_) (fun h24 => False.elim (by first | exact absurd h24 ((Int32.not_lt.mp (zw_iff.mp hg.2.2).2)) | exact absurd ((Int32.not_lt.mp (zw_iff.mp hg.2.2).2)) h24))
      refine zo_aload_n (i := i_Mo_told) (pc := 31) d_Mo_told_31 rfl rfl ?_
      refine zo_get (i := i_Mo_told) (pc := 32) 10 3 rfl zok_Mo (Nat.le_of_ble_eq_true rfl) (ztb_of k_861 rfl) d_Mo_told_32 (fun _ _ _ h => h) (hs.get (t := 0) rfl) rfl ?_
      refine zo_if_eq (i := i_Mo_told) (pc := 35) (tgt := 42) d_Mo_told_35 (by decide) (fun h35 => False.elim (by first | exact absurd h35 ((by rw [hr.1.2.2.2.1, hdn]; decide)) | exact absurd ((by rw [hr.1.2.2.2.1, hdn]; decide)) h35)) (fun h35 => ?_)
      refine zo_iconst (i := i_Mo_told) (pc := 38) (v := 2) d_Mo_told_38 (by decide) ?_
      refine zo_goto (i := i_Mo_told) (pc := 39) (tgt := 43) d_Mo_told_39 (by decide) ?_
      refine zh_put (i := i_Mo_told) (pc := 43) 10 0 rfl zok_Mo (Nat.le_of_ble_eq_true rfl) (ztb_of k_858 rfl) rfl d_Mo_told_43 (fun _ _ _ h => h) (t_Mo_ok 0 (Nat.le_of_ble_eq_true rfl)) rfl rfl hs 0 rfl (Nat.le_of_ble_eq_true rfl) fun ws hs => ?_
      refine zo_aload_n (i := i_Mo_told) (pc := 46) d_Mo_told_46 rfl rfl ?_
      refine zo_get (i := i_Mo_told) (pc := 47) 10 0 rfl zok_Mo (Nat.le_of_ble_eq_true rfl) (ztb_of k_858 rfl) d_Mo_told_47 (fun _ _ _ h => h) (hs.get (t := 0) rfl) rfl ?_
      refine zo_if_eq (i := i_Mo_told) (pc := 50) (tgt := 54) d_Mo_told_50 (by decide) (fun h50 => False.elim (by first | exact absurd h50 ((by decide)) | exact absurd ((by decide)) h50)) (fun h50 => ?_)
      refine zo_return (i := i_Mo_told) (pc := 53) hq d_Mo_told_53 rfl (Nat.le_of_ble_eq_true rfl) (Nat.le_of_ble_eq_true rfl) ?_
      exact k2 hg hdn ws ⟨_, _, hr.thrown, hs⟩
  · refine zo_aload_n (i := i_Mo_told) (pc := 0) d_Mo_told_0 rfl rfl ?_
    refine zo_aload_n (i := i_Mo_told) (pc := 1) d_Mo_told_1 rfl rfl ?_
    refine zo_iload_n (i := i_Mo_told) (pc := 2) d_Mo_told_2 rfl ?_
    refine zc_V1 (i := i_Mo_told) (pc := 3) 10 rfl m_Mo_isAddress (ztb_of k_1056 rfl) (ztb_of k_1058 rfl) s_Mo_isAddress d_Mo_told_3 (Nat.le_of_ble_eq_true rfl) (Nat.le_of_ble_eq_true rfl) (Nat.le_of_ble_eq_true rfl) (Nat.le_of_ble_eq_true rfl) (hs.get (t := 0) rfl) (c_Mo_isAddress ?_)
    refine zo_if_eq (i := i_Mo_told) (pc := 6) (tgt := 27) d_Mo_told_6 (by decide) (fun h6 => ?_) (fun h6 => ?_)
    · refine zo_iconst (i := i_Mo_told) (pc := 27) (v := 1) d_Mo_told_27 (by decide) ?_
      refine zo_goto (i := i_Mo_told) (pc := 28) (tgt := 43) d_Mo_told_28 (by decide) ?_
      refine zh_put (i := i_Mo_told) (pc := 43) 10 0 rfl zok_Mo (Nat.le_of_ble_eq_true rfl) (ztb_of k_858 rfl) rfl d_Mo_told_43 (fun _ _ _ h => h) (t_Mo_ok 0 (Nat.le_of_ble_eq_true rfl)) rfl rfl hs 0 rfl (Nat.le_of_ble_eq_true rfl) fun ws hs => ?_
      refine zo_aload_n (i := i_Mo_told) (pc := 46) d_Mo_told_46 rfl rfl ?_
      refine zo_get (i := i_Mo_told) (pc := 47) 10 0 rfl zok_Mo (Nat.le_of_ble_eq_true rfl) (ztb_of k_858 rfl) d_Mo_told_47 (fun _ _ _ h => h) (hs.get (t := 0) rfl) rfl ?_
      refine zo_if_eq (i := i_Mo_told) (pc := 50) (tgt := 54) d_Mo_told_50 (by decide) (fun h50 => False.elim (by first | exact absurd h50 ((by decide)) | exact absurd ((by decide)) h50)) (fun h50 => ?_)
      refine zo_return (i := i_Mo_told) (pc := 53) hq d_Mo_told_53 rfl (Nat.le_of_ble_eq_true rfl) (Nat.le_of_ble_eq_true rfl) ?_
      exact k1 hg ws ⟨_, _, hr.thrown, hs⟩
    · refine zo_aload_n (i := i_Mo_told) (pc := 9) d_Mo_told_9 rfl rfl ?_
      refine zo_iload_n (i := i_Mo_told) (pc := 10) d_Mo_told_10 rfl ?_
      refine zc_V1 (i := i_Mo_told) (pc := 11) 10 rfl m_Mo_isNumber (ztb_of k_1004 rfl) (ztb_of k_1006 rfl) s_Mo_isNumber d_Mo_told_11 (Nat.le_of_ble_eq_true rfl) (Nat.le_of_ble_eq_true rfl) (Nat.le_of_ble_eq_true rfl) (Nat.le_of_ble_eq_true rfl) (hs.get (t := 0) rfl) (c_Mo_isNumber ?_)
      refine zo_if_eq (i := i_Mo_told) (pc := 14) (tgt := 27) d_Mo_told_14 (by decide) (fun h14 => ?_) (fun h14 => ?_)
      · refine zo_iconst (i := i_Mo_told) (pc := 27) (v := 1) d_Mo_told_27 (by decide) ?_
        refine zo_goto (i := i_Mo_told) (pc := 28) (tgt := 43) d_Mo_told_28 (by decide) ?_
        refine zh_put (i := i_Mo_told) (pc := 43) 10 0 rfl zok_Mo (Nat.le_of_ble_eq_true rfl) (ztb_of k_858 rfl) rfl d_Mo_told_43 (fun _ _ _ h => h) (t_Mo_ok 0 (Nat.le_of_ble_eq_true rfl)) rfl rfl hs 0 rfl (Nat.le_of_ble_eq_true rfl) fun ws hs => ?_
        refine zo_aload_n (i := i_Mo_told) (pc := 46) d_Mo_told_46 rfl rfl ?_
        refine zo_get (i := i_Mo_told) (pc := 47) 10 0 rfl zok_Mo (Nat.le_of_ble_eq_true rfl) (ztb_of k_858 rfl) d_Mo_told_47 (fun _ _ _ h => h) (hs.get (t := 0) rfl) rfl ?_
        refine zo_if_eq (i := i_Mo_told) (pc := 50) (tgt := 54) d_Mo_told_50 (by decide) (fun h50 => False.elim (by first | exact absurd h50 ((by decide)) | exact absurd ((by decide)) h50)) (fun h50 => ?_)
        refine zo_return (i := i_Mo_told) (pc := 53) hq d_Mo_told_53 rfl (Nat.le_of_ble_eq_true rfl) (Nat.le_of_ble_eq_true rfl) ?_
        exact k1 hg ws ⟨_, _, hr.thrown, hs⟩
      · refine zo_iload_n (i := i_Mo_told) (pc := 17) d_Mo_told_17 rfl ?_
        refine zo_if_lt (i := i_Mo_told) (pc := 18) (tgt := 27) d_Mo_told_18 (by decide) (fun h18 => ?_) (fun h18 => ?_)
        · refine zo_iconst (i := i_Mo_told) (pc := 27) (v := 1) d_Mo_told_27 (by decide) ?_
          refine zo_goto (i := i_Mo_told) (pc := 28) (tgt := 43) d_Mo_told_28 (by decide) ?_
          refine zh_put (i := i_Mo_told) (pc := 43) 10 0 rfl zok_Mo (Nat.le_of_ble_eq_true rfl) (ztb_of k_858 rfl) rfl d_Mo_told_43 (fun _ _ _ h => h) (t_Mo_ok 0 (Nat.le_of_ble_eq_true rfl)) rfl rfl hs 0 rfl (Nat.le_of_ble_eq_true rfl) fun ws hs => ?_
          refine zo_aload_n (i := i_Mo_told) (pc := 46) d_Mo_told_46 rfl rfl ?_
          refine zo_get (i := i_Mo_told) (pc := 47) 10 0 rfl zok_Mo (Nat.le_of_ble_eq_true rfl) (ztb_of k_858 rfl) d_Mo_told_47 (fun _ _ _ h => h) (hs.get (t := 0) rfl) rfl ?_
          refine zo_if_eq (i := i_Mo_told) (pc := 50) (tgt := 54) d_Mo_told_50 (by decide) (fun h50 => False.elim (by first | exact absurd h50 ((by decide)) | exact absurd ((by decide)) h50)) (fun h50 => ?_)
          refine zo_return (i := i_Mo_told) (pc := 53) hq d_Mo_told_53 rfl (Nat.le_of_ble_eq_true rfl) (Nat.le_of_ble_eq_true rfl) ?_
          exact k1 hg ws ⟨_, _, hr.thrown, hs⟩
        · refine zo_iload_n (i := i_Mo_told) (pc := 21) d_Mo_told_21 rfl ?_
          refine zo_bipush (i := i_Mo_told) (pc := 22) (v := 7) d_Mo_told_22 (by decide) ?_
          refine zo_icmp_le (i := i_Mo_told) (pc := 24) (tgt := 31) d_Mo_told_24 (by decide) (fun h24 => False.elim (by first | exact absurd h24 ((fun hh => hg ⟨zb_ne h6, zb_ne h14, zw_iff.mpr ⟨h18, Int32.not_lt.mpr hh⟩⟩)) | exact absurd ((fun hh => hg ⟨zb_ne h6, zb_ne h14, zw_iff.mpr ⟨h18, Int32.not_lt.mpr hh⟩⟩)) h24)) (fun h24 => ?_)
          refine zo_iconst (i := i_Mo_told) (pc := 27) (v := 1) d_Mo_told_27 (by decide) ?_
          refine zo_goto (i := i_Mo_told) (pc := 28) (tgt := 43) d_Mo_told_28 (by decide) ?_
          refine zh_put (i := i_Mo_told) (pc := 43) 10 0 rfl zok_Mo (Nat.le_of_ble_eq_true rfl) (ztb_of k_858 rfl) rfl d_Mo_told_43 (fun _ _ _ h => h) (t_Mo_ok 0 (Nat.le_of_ble_eq_true rfl)) rfl rfl hs 0 rfl (Nat.le_of_ble_eq_true rfl) fun ws hs => ?_
          refine zo_aload_n (i := i_Mo_told) (pc := 46) d_Mo_told_46 rfl rfl ?_
          refine zo_get (i := i_Mo_told) (pc := 47) 10 0 rfl zok_Mo (Nat.le_of_ble_eq_true rfl) (ztb_of k_858 rfl) d_Mo_told_47 (fun _ _ _ h => h) (hs.get (t := 0) rfl) rfl ?_
          refine zo_if_eq (i := i_Mo_told) (pc := 50) (tgt := 54) d_Mo_told_50 (by decide) (fun h50 => False.elim (by first | exact absurd h50 ((by decide)) | exact absurd ((by decide)) h50)) (fun h50 => ?_)
          refine zo_return (i := i_Mo_told) (pc := 53) hq d_Mo_told_53 rfl (Nat.le_of_ble_eq_true rfl) (Nat.le_of_ble_eq_true rfl) ?_
          exact k1 hg ws ⟨_, _, hr.thrown, hs⟩
