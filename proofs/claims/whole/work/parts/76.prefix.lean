/-! The model by states: prefix (walks by a program, gen76.py). -/
theorem l_prefix {g : zG} {ws : va_W} {post : Option Value → va_W → Prop} {B : Nat → Nat} {q : hT} {t : Int32} {R : va_W} (h : mS g B q t R ws) {p f v r : Int32} {T U : Nat} (hi : hI q T U) (k0 : (zwithin p 1 250 = true ∧ zwithin f 0 3 = true ∧ zwithin v 0 1000 = true ∧ zwithin r 0 1000 = true) → q.1.2.2.2.2.2.2 = false → ∀ w, mS g B (prefixT q p f v r) 0 R w → post none w) (k1 : ¬ (zwithin p 1 250 = true ∧ zwithin f 0 3 = true ∧ zwithin v 0 1000 = true ∧ zwithin r 0 1000 = true) → ∀ w, mS g B q 1 R w → post none w) (k2 : (zwithin p 1 250 = true ∧ zwithin f 0 3 = true ∧ zwithin v 0 1000 = true ∧ zwithin r 0 1000 = true) → q.1.2.2.2.2.2.2 = true → ∀ w, mS g B q 2 R w → post none w) : zC g i_Mo_prefix [.ref (B 0), .int p, .int f, .int v, .int r] ws post := by
  refine zC.intro (by decide +kernel) rfl (Nat.le_of_ble_eq_true rfl) fun x0 hq => ?_
  obtain ⟨m, F, hr, hs⟩ := h
  by_cases hg : zwithin p 1 250 = true ∧ zwithin f 0 3 = true ∧ zwithin v 0 1000 = true ∧ zwithin r 0 1000 = true
  · cases hdn : q.1.2.2.2.2.2.2
    · refine zo_iload_n (i := i_Mo_prefix) (pc := 0) d_Mo_prefix_0 rfl ?_
      refine zo_iconst (i := i_Mo_prefix) (pc := 1) (v := 1) d_Mo_prefix_1 (by decide) ?_
      refine zo_icmp_lt (i := i_Mo_prefix) (pc := 2) (tgt := 45) d_Mo_prefix_2 (by decide) (fun h2 => False.elim (by first | exact absurd h2 ((zw_iff.mp hg.1).1) | exact absurd ((zw_iff.mp hg.1).1) h2)) (fun h2 => ?_)
      refine zo_iload_n (i := i_Mo_prefix) (pc := 5) d_Mo_prefix_5 rfl ?_
      refine zo_sipush (i := i_Mo_prefix) (pc := 6) (v := 250) d_Mo_prefix_6 (by decide) ?_
      refine zo_icmp_gt (i := i_Mo_prefix) (pc := 9) (tgt := 45) d_Mo_prefix_9 (by decide) (fun h9 => False.elim (by first | exact absurd h9 ((zw_iff.mp hg.1).2) | exact absurd ((zw_iff.mp hg.1).2) h9)) (fun h9 => ?_)
      refine zo_iload_n (i := i_Mo_prefix) (pc := 12) d_Mo_prefix_12 rfl ?_
      refine zo_if_lt (i := i_Mo_prefix) (pc := 13) (tgt := 45) d_Mo_prefix_13 (by decide) (fun h13 => False.elim (by first | exact absurd h13 ((zw_iff.mp hg.2.1).1) | exact absurd ((zw_iff.mp hg.2.1).1) h13)) (fun h13 => ?_)
      refine zo_iload_n (i := i_Mo_prefix) (pc := 16) d_Mo_prefix_16 rfl ?_
      refine zo_iconst (i := i_Mo_prefix) (pc := 17) (v := 3) d_Mo_prefix_17 (by decide) ?_
      refine zo_icmp_gt (i := i_Mo_prefix) (pc := 18) (tgt := 45) d_Mo_prefix_18 (by decide) (fun h18 => False.elim (by first | exact absurd h18 ((zw_iff.mp hg.2.1).2) | exact absurd ((zw_iff.mp hg.2.1).2) h18)) (fun h18 => ?_)
      refine zo_iload_n (i := i_Mo_prefix) (pc := 21) d_Mo_prefix_21 rfl ?_
      refine zo_if_lt (i := i_Mo_prefix) (pc := 22) (tgt := 45) d_Mo_prefix_22 (by decide) (fun h22 => False.elim (by first | exact absurd h22 ((zw_iff.mp hg.2.2.1).1) | exact absurd ((zw_iff.mp hg.2.2.1).1) h22)) (fun h22 => ?_)
      refine zo_iload_n (i := i_Mo_prefix) (pc := 25) d_Mo_prefix_25 rfl ?_
      refine zo_sipush (i := i_Mo_prefix) (pc := 26) (v := 1000) d_Mo_prefix_26 (by decide) ?_
      refine zo_icmp_gt (i := i_Mo_prefix) (pc := 29) (tgt := 45) d_Mo_prefix_29 (by decide) (fun h29 => False.elim (by first | exact absurd h29 ((zw_iff.mp hg.2.2.1).2) | exact absurd ((zw_iff.mp hg.2.2.1).2) h29)) (fun h29 => ?_)
      refine zo_iload (i := i_Mo_prefix) (pc := 32) d_Mo_prefix_32 rfl ?_
      refine zo_if_lt (i := i_Mo_prefix) (pc := 34) (tgt := 45) d_Mo_prefix_34 (by decide) (fun h34 => False.elim (by first | exact absurd h34 ((zw_iff.mp hg.2.2.2).1) | exact absurd ((zw_iff.mp hg.2.2.2).1) h34)) (fun h34 => ?_)
      refine zo_iload (i := i_Mo_prefix) (pc := 37) d_Mo_prefix_37 rfl ?_
      refine zo_sipush (i := i_Mo_prefix) (pc := 39) (v := 1000) d_Mo_prefix_39 (by decide) ?_
      refine zo_icmp_le (i := i_Mo_prefix) (pc := 42) (tgt := 49) d_Mo_prefix_42 (by decide) (fun h42 => ?_) (fun h42 => False.elim (by first | exact absurd h42 ((Int32.not_lt.mp (zw_iff.mp hg.2.2.2).2)) | exact absurd ((Int32.not_lt.mp (zw_iff.mp hg.2.2.2).2)) h42))
      refine zo_iconst (i := i_Mo_prefix) (pc := 49) (v := 0) d_Mo_prefix_49 (by decide) ?_
      refine zo_istore (i := i_Mo_prefix) (pc := 50) d_Mo_prefix_50 (Nat.le_of_ble_eq_true rfl) ?_
      refine zo_aload_n (i := i_Mo_prefix) (pc := 52) d_Mo_prefix_52 rfl rfl ?_
      refine zo_iload (i := i_Mo_prefix) (pc := 53) d_Mo_prefix_53 rfl ?_
      refine zo_if_eq (i := i_Mo_prefix) (pc := 55) (tgt := 62) d_Mo_prefix_55 (by decide) (fun h55 => ?_) (fun h55 => False.elim (by first | exact absurd h55 (rfl) | exact absurd (rfl) h55))
      refine zo_aload_n (i := i_Mo_prefix) (pc := 62) d_Mo_prefix_62 rfl rfl ?_
      refine zo_get (i := i_Mo_prefix) (pc := 63) 10 3 rfl zok_Mo (Nat.le_of_ble_eq_true rfl) (ztb_of k_861 rfl) d_Mo_prefix_63 (fun _ _ _ h => h) (hs.get (t := 0) rfl) rfl ?_
      refine zo_if_eq (i := i_Mo_prefix) (pc := 66) (tgt := 73) d_Mo_prefix_66 (by decide) (fun h66 => ?_) (fun h66 => False.elim (by first | exact absurd h66 ((by rw [hr.1.2.2.2.1, hdn]; rfl)) | exact absurd ((by rw [hr.1.2.2.2.1, hdn]; rfl)) h66))
      refine zo_iconst (i := i_Mo_prefix) (pc := 73) (v := 0) d_Mo_prefix_73 (by decide) ?_
      refine zh_put (i := i_Mo_prefix) (pc := 74) 10 0 rfl zok_Mo (Nat.le_of_ble_eq_true rfl) (ztb_of k_858 rfl) rfl d_Mo_prefix_74 (fun _ _ _ h => h) (t_Mo_ok 0 (Nat.le_of_ble_eq_true rfl)) rfl rfl hs 0 rfl (Nat.le_of_ble_eq_true rfl) fun ws hs => ?_
      refine zo_aload_n (i := i_Mo_prefix) (pc := 77) d_Mo_prefix_77 rfl rfl ?_
      refine zo_get (i := i_Mo_prefix) (pc := 78) 10 0 rfl zok_Mo (Nat.le_of_ble_eq_true rfl) (ztb_of k_858 rfl) d_Mo_prefix_78 (fun _ _ _ h => h) (hs.get (t := 0) rfl) rfl ?_
      refine zo_if_ne (i := i_Mo_prefix) (pc := 81) (tgt := 89) d_Mo_prefix_81 (by decide) (fun h81 => False.elim (by first | exact absurd h81 (rfl) | exact absurd (rfl) h81)) (fun h81 => ?_)
      obtain ⟨m, F, hr, hs⟩ : mS g B q 0 R ws := ⟨_, _, hr.thrown, hs⟩
      obtain ⟨cc, a1, a2, a3, a4, a5, a6, a7, a8, a9, a10, a11, a12, ar⟩ := id hi
      by_cases hp1 : p = 1
      · refine zo_iload_n (i := i_Mo_prefix) (pc := 84) d_Mo_prefix_84 rfl ?_
        refine zo_iconst (i := i_Mo_prefix) (pc := 85) (v := 1) d_Mo_prefix_85 (by decide) ?_
        refine zo_icmp_ne (i := i_Mo_prefix) (pc := 86) (tgt := 90) d_Mo_prefix_86 (by decide) (fun h86 => False.elim (by first | exact absurd h86 (hp1) | exact absurd (hp1) h86)) (fun h86 => ?_)
        refine zo_return (i := i_Mo_prefix) (pc := 89) hq d_Mo_prefix_89 rfl (Nat.le_of_ble_eq_true rfl) (Nat.le_of_ble_eq_true rfl) ?_
        have kk := k0 hg hdn ws
        unfold prefixT at kk
        rw [if_pos hp1] at kk
        exact kk ⟨_, _, hr, hs⟩
      · have tail : ∀ (l : List zTD) (ws : va_W), tP q l = (if f &&& 1 = 0 then q else hearOnLinkT q p v) → mS g B (tP q l) 0 R ws → zW x0 g i_Mo_prefix 129 [some (.ref (B 0)), some (.int p), some (.int f), some (.int v), some (.int r), some (.int 0), none] [] ws 0 0 := by
          intro l ws hq1 hS
          obtain ⟨m, F, hr, hs⟩ := hS
          refine zo_iload_n (i := i_Mo_prefix) (pc := 129) d_Mo_prefix_129 rfl ?_
          refine zo_iconst (i := i_Mo_prefix) (pc := 130) (v := 2) d_Mo_prefix_130 (by decide) ?_
          refine zo_iand (i := i_Mo_prefix) (pc := 131) d_Mo_prefix_131 ?_
          refine zo_iconst (i := i_Mo_prefix) (pc := 132) (v := 2) d_Mo_prefix_132 (by decide) ?_
          refine zo_icmp_ne (i := i_Mo_prefix) (pc := 133) (tgt := 195) d_Mo_prefix_133 (by decide) (fun h133 => ?_) (fun h133 => ?_)
          · refine zo_return (i := i_Mo_prefix) (pc := 195) hq d_Mo_prefix_195 rfl (Nat.le_of_ble_eq_true rfl) (Nat.le_of_ble_eq_true rfl) ?_
            have kk := k0 hg hdn ws
            unfold prefixT at kk
            rw [if_neg hp1] at kk
            simp only at kk
            rw [← hq1, if_pos (.inl (Decidable.not_not.mp (fun hh => h133 ((fl1 (fl3 hg.2.1)).2.mpr hh))))] at kk
            exact kk ⟨_, _, hr, hs⟩
          · refine zo_iload (i := i_Mo_prefix) (pc := 136) d_Mo_prefix_136 rfl ?_
            refine zo_iload_n (i := i_Mo_prefix) (pc := 138) d_Mo_prefix_138 rfl ?_
            refine zo_icmp_gt (i := i_Mo_prefix) (pc := 139) (tgt := 195) d_Mo_prefix_139 (by decide) (fun h139 => ?_) (fun h139 => ?_)
            · refine zo_return (i := i_Mo_prefix) (pc := 195) hq d_Mo_prefix_195 rfl (Nat.le_of_ble_eq_true rfl) (Nat.le_of_ble_eq_true rfl) ?_
              have kk := k0 hg hdn ws
              unfold prefixT at kk
              rw [if_neg hp1] at kk
              simp only at kk
              rw [← hq1, if_pos (.inr h139)] at kk
              exact kk ⟨_, _, hr, hs⟩
            · refine zo_aload_n (i := i_Mo_prefix) (pc := 142) d_Mo_prefix_142 rfl rfl ?_
              refine zo_sipush (i := i_Mo_prefix) (pc := 143) (v := 256) d_Mo_prefix_143 (by decide) ?_
              refine zo_iload_n (i := i_Mo_prefix) (pc := 146) d_Mo_prefix_146 rfl ?_
              refine zo_imul (i := i_Mo_prefix) (pc := 147) d_Mo_prefix_147 ?_
              refine zo_aload_n (i := i_Mo_prefix) (pc := 148) d_Mo_prefix_148 rfl rfl ?_
              refine zo_get (i := i_Mo_prefix) (pc := 149) 10 1 rfl zok_Mo (Nat.le_of_ble_eq_true rfl) (ztb_of k_859 rfl) d_Mo_prefix_149 (fun _ _ _ h => h) (hs.get (t := 0) rfl) rfl ?_
              refine zo_iadd (i := i_Mo_prefix) (pc := 152) d_Mo_prefix_152 ?_
              rw [hr.1.2.1]
              refine zc_V1 (i := i_Mo_prefix) (pc := 153) 10 rfl m_Mo_ownAt (ztb_of k_1044 rfl) (ztb_of k_1046 rfl) s_Mo_ownAt d_Mo_prefix_153 (Nat.le_of_ble_eq_true rfl) (Nat.le_of_ble_eq_true rfl) (Nat.le_of_ble_eq_true rfl) (Nat.le_of_ble_eq_true rfl) (hs.get (t := 0) rfl) (l_ownAt ⟨_, _, hr, hs⟩ (fun j x hx hxa hf hset => ?_) (fun hf => ?_))
              · have hxe := (a8 x (List.mem_of_getElem? hx)).1
                refine zo_istore (i := i_Mo_prefix) (pc := 156) d_Mo_prefix_156 (Nat.le_of_ble_eq_true rfl) ?_
                refine zo_iload (i := i_Mo_prefix) (pc := 158) d_Mo_prefix_158 rfl ?_
                refine zo_if_lt (i := i_Mo_prefix) (pc := 160) (tgt := 175) d_Mo_prefix_160 (by decide) (fun h160 => False.elim (by first | exact absurd h160 ((nI_pos (by have := hr.2.2.1.2.1; have := len_of hx; omega))) | exact absurd ((nI_pos (by have := hr.2.2.1.2.1; have := len_of hx; omega))) h160)) (fun h160 => ?_)
                refine zo_aload_n (i := i_Mo_prefix) (pc := 163) d_Mo_prefix_163 rfl rfl ?_
                refine zo_iload (i := i_Mo_prefix) (pc := 164) d_Mo_prefix_164 rfl ?_
                refine zo_iload_n (i := i_Mo_prefix) (pc := 166) d_Mo_prefix_166 rfl ?_
                refine zo_iload (i := i_Mo_prefix) (pc := 167) d_Mo_prefix_167 rfl ?_
                refine zc_V3 (i := i_Mo_prefix) (pc := 169) 10 rfl m_Mo_renew (ztb_of k_1048 rfl) (ztb_of k_1050 rfl) s_Mo_renew d_Mo_prefix_169 (Nat.le_of_ble_eq_true rfl) (Nat.le_of_ble_eq_true rfl) (Nat.le_of_ble_eq_true rfl) (Nat.le_of_ble_eq_true rfl) (hs.get (t := 0) rfl) (l_renew ⟨_, _, hr, hs⟩ (c := cc) (by omega) a1 hx hxe hg.2.2.1 hg.2.2.2 fun ws hS => ?_)
                refine zo_goto (i := i_Mo_prefix) (pc := 172) (tgt := 195) d_Mo_prefix_172 (by decide) ?_
                refine zo_return (i := i_Mo_prefix) (pc := 195) hq d_Mo_prefix_195 rfl (Nat.le_of_ble_eq_true rfl) (Nat.le_of_ble_eq_true rfl) ?_
                have kk := k0 hg hdn ws
                unfold prefixT at kk
                rw [if_neg hp1] at kk
                simp only at kk
                rw [← hq1, if_neg (fun hh => hh.elim (fun h2 => ((fl1 (fl3 hg.2.1)).2.mp h133) h2) h139)] at kk
                have hff : (tP q l).2.2.1.find? (fun e => decide (e.1 = 256 * p + (tP q l).1.1)) = some x := hf
                unfold hearFormT at kk
                rw [hff] at kk
                simp only at kk
                have hset2 : zset1 (fun e => decide (e.1 = 256 * p + (tP q l).1.1)) (oaR (tP q l).1.2.1 v r) (tP q l).2.2.1 = (tP q l).2.2.1.set j (oaR (nI cc) v r x) := by
                  rw [show (tP q l).1.2.1 = nI cc from a1]
                  exact hset _
                rw [hset2] at kk
                exact kk hS
              · refine zo_istore (i := i_Mo_prefix) (pc := 156) d_Mo_prefix_156 (Nat.le_of_ble_eq_true rfl) ?_
                refine zo_iload (i := i_Mo_prefix) (pc := 158) d_Mo_prefix_158 rfl ?_
                refine zo_if_lt (i := i_Mo_prefix) (pc := 160) (tgt := 175) d_Mo_prefix_160 (by decide) (fun h160 => ?_) (fun h160 => False.elim (by first | exact absurd h160 ((by decide)) | exact absurd ((by decide)) h160))
                refine zo_iload_n (i := i_Mo_prefix) (pc := 175) d_Mo_prefix_175 rfl ?_
                refine zo_if_le (i := i_Mo_prefix) (pc := 176) (tgt := 195) d_Mo_prefix_176 (by decide) (fun h176 => ?_) (fun h176 => ?_)
                · refine zo_return (i := i_Mo_prefix) (pc := 195) hq d_Mo_prefix_195 rfl (Nat.le_of_ble_eq_true rfl) (Nat.le_of_ble_eq_true rfl) ?_
                  have kk := k0 hg hdn ws
                  unfold prefixT at kk
                  rw [if_neg hp1] at kk
                  simp only at kk
                  rw [← hq1, if_neg (fun hh => hh.elim (fun h2 => ((fl1 (fl3 hg.2.1)).2.mp h133) h2) h139)] at kk
                  have hff : (tP q l).2.2.1.find? (fun e => decide (e.1 = 256 * p + (tP q l).1.1)) = none := hf
                  unfold hearFormT at kk
                  rw [hff] at kk
                  simp only at kk
                  have hv0 : v = 0 := Int32.le_antisymm h176 (Int32.not_lt.mp (zw_iff.mp hg.2.2.1).1)
                  rw [if_neg (fun hh => hh.1 hv0)] at kk
                  exact kk ⟨_, _, hr, hs⟩
                · refine zo_aload_n (i := i_Mo_prefix) (pc := 179) d_Mo_prefix_179 rfl rfl ?_
                  refine zo_get (i := i_Mo_prefix) (pc := 180) 10 12 rfl zok_Mo (Nat.le_of_ble_eq_true rfl) (ztb_of k_870 rfl) d_Mo_prefix_180 (fun _ _ _ h => h) (hs.get (t := 0) rfl) rfl ?_
                  refine zo_iconst (i := i_Mo_prefix) (pc := 183) (v := 5) d_Mo_prefix_183 (by decide) ?_
                  refine zo_icmp_ge (i := i_Mo_prefix) (pc := 184) (tgt := 195) d_Mo_prefix_184 (by decide) (fun h184 => ?_) (fun h184 => ?_)
                  · refine zo_return (i := i_Mo_prefix) (pc := 195) hq d_Mo_prefix_195 rfl (Nat.le_of_ble_eq_true rfl) (Nat.le_of_ble_eq_true rfl) ?_
                    have kk := k0 hg hdn ws
                    unfold prefixT at kk
                    rw [if_neg hp1] at kk
                    simp only at kk
                    rw [← hq1, if_neg (fun hh => hh.elim (fun h2 => ((fl1 (fl3 hg.2.1)).2.mp h133) h2) h139)] at kk
                    have hff : (tP q l).2.2.1.find? (fun e => decide (e.1 = 256 * p + (tP q l).1.1)) = none := hf
                    unfold hearFormT at kk
                    rw [hff] at kk
                    simp only at kk
                    have hv0 : ¬ v = 0 := fun hh => h176 (by rw [hh]; decide)
                    rw [hr.2.2.1.1] at h184
                    have h5 : 5 ≤ (tP q l).2.2.1.length := (kle (a := 5) (by omega) (by have := hr.2.2.1.2.1; omega)).mp h184
                    rw [if_neg (fun hh => absurd hh.2 (by omega))] at kk
                    exact kk ⟨_, _, hr, hs⟩
                  · have hlt5 : (tP q l).2.2.1.length < 5 := by
                      rw [hr.2.2.1.1] at h184
                      rcases Nat.lt_or_ge (tP q l).2.2.1.length 5 with hh | hh
                      · exact hh
                      · exact absurd ((kle (a := 5) (by omega) (by have := hr.2.2.1.2.1; omega)).mpr hh) h184
                    refine zo_aload_n (i := i_Mo_prefix) (pc := 187) d_Mo_prefix_187 rfl rfl ?_
                    refine zo_iload_n (i := i_Mo_prefix) (pc := 188) d_Mo_prefix_188 rfl ?_
                    refine zo_iload_n (i := i_Mo_prefix) (pc := 189) d_Mo_prefix_189 rfl ?_
                    refine zo_iload (i := i_Mo_prefix) (pc := 190) d_Mo_prefix_190 rfl ?_
                    refine zc_V3 (i := i_Mo_prefix) (pc := 192) 10 rfl m_Mo_form (ztb_of k_844 rfl) (ztb_of k_846 rfl) s_Mo_form d_Mo_prefix_192 (Nat.le_of_ble_eq_true rfl) (Nat.le_of_ble_eq_true rfl) (Nat.le_of_ble_eq_true rfl) (Nat.le_of_ble_eq_true rfl) (hs.get (t := 0) rfl) (l_form ⟨_, _, hr, hs⟩ (by show q.2.1.1 < _; omega) hlt5 (by rw [show (tP q l).1.2.1 = nI cc from a1]; exact end_ne (by omega) hg.2.2.1) (by rw [show (tP q l).1.2.1 = nI cc from a1]; exact end_ne (by omega) hg.2.2.2) fun ws hS => ?_)
                    refine zo_return (i := i_Mo_prefix) (pc := 195) hq d_Mo_prefix_195 rfl (Nat.le_of_ble_eq_true rfl) (Nat.le_of_ble_eq_true rfl) ?_
                    have kk := k0 hg hdn ws
                    unfold prefixT at kk
                    rw [if_neg hp1] at kk
                    simp only at kk
                    rw [← hq1, if_neg (fun hh => hh.elim (fun h2 => ((fl1 (fl3 hg.2.1)).2.mp h133) h2) h139)] at kk
                    have hff : (tP q l).2.2.1.find? (fun e => decide (e.1 = 256 * p + (tP q l).1.1)) = none := hf
                    unfold hearFormT at kk
                    rw [hff] at kk
                    simp only at kk
                    have hv0 : ¬ v = 0 := fun hh => h176 (by rw [hh]; decide)
                    rw [if_pos ⟨hv0, hlt5⟩] at kk
                    exact kk hS
        refine zo_iload_n (i := i_Mo_prefix) (pc := 84) d_Mo_prefix_84 rfl ?_
        refine zo_iconst (i := i_Mo_prefix) (pc := 85) (v := 1) d_Mo_prefix_85 (by decide) ?_
        refine zo_icmp_ne (i := i_Mo_prefix) (pc := 86) (tgt := 90) d_Mo_prefix_86 (by decide) (fun h86 => ?_) (fun h86 => False.elim (by first | exact absurd h86 (hp1) | exact absurd (hp1) h86))
        refine zo_iload_n (i := i_Mo_prefix) (pc := 90) d_Mo_prefix_90 rfl ?_
        refine zo_iconst (i := i_Mo_prefix) (pc := 91) (v := 1) d_Mo_prefix_91 (by decide) ?_
        refine zo_iand (i := i_Mo_prefix) (pc := 92) d_Mo_prefix_92 ?_
        refine zo_iconst (i := i_Mo_prefix) (pc := 93) (v := 1) d_Mo_prefix_93 (by decide) ?_
        refine zo_icmp_ne (i := i_Mo_prefix) (pc := 94) (tgt := 110) d_Mo_prefix_94 (by decide) (fun h94 => ?_) (fun h94 => ?_)
        · refine zo_iload_n (i := i_Mo_prefix) (pc := 110) d_Mo_prefix_110 rfl ?_
          refine zo_iconst (i := i_Mo_prefix) (pc := 111) (v := 1) d_Mo_prefix_111 (by decide) ?_
          refine zo_iand (i := i_Mo_prefix) (pc := 112) d_Mo_prefix_112 ?_
          refine zo_iconst (i := i_Mo_prefix) (pc := 113) (v := 1) d_Mo_prefix_113 (by decide) ?_
          refine zo_icmp_ne (i := i_Mo_prefix) (pc := 114) (tgt := 129) d_Mo_prefix_114 (by decide) (fun h114 => ?_) (fun h114 => False.elim (by first | exact absurd h114 (h94) | exact absurd (h94) h114))
          have h0 : f &&& 1 = 0 := Decidable.not_not.mp (fun hh => h94 ((fl1 (fl3 hg.2.1)).1.mpr hh))
          refine tail q.2.2.2.2.2.1 ws ?_ ⟨_, _, hr, hs⟩
          rw [if_pos h0]
          rfl
        · refine zo_iload_n (i := i_Mo_prefix) (pc := 97) d_Mo_prefix_97 rfl ?_
          refine zo_if_ne (i := i_Mo_prefix) (pc := 98) (tgt := 110) d_Mo_prefix_98 (by decide) (fun h98 => ?_) (fun h98 => ?_)
          · refine zo_iload_n (i := i_Mo_prefix) (pc := 110) d_Mo_prefix_110 rfl ?_
            refine zo_iconst (i := i_Mo_prefix) (pc := 111) (v := 1) d_Mo_prefix_111 (by decide) ?_
            refine zo_iand (i := i_Mo_prefix) (pc := 112) d_Mo_prefix_112 ?_
            refine zo_iconst (i := i_Mo_prefix) (pc := 113) (v := 1) d_Mo_prefix_113 (by decide) ?_
            refine zo_icmp_ne (i := i_Mo_prefix) (pc := 114) (tgt := 129) d_Mo_prefix_114 (by decide) (fun h114 => False.elim (by first | exact absurd h114 (h94) | exact absurd (h94) h114)) (fun h114 => ?_)
            refine zo_aload_n (i := i_Mo_prefix) (pc := 117) d_Mo_prefix_117 rfl rfl ?_
            refine zo_iconst (i := i_Mo_prefix) (pc := 118) (v := 1) d_Mo_prefix_118 (by decide) ?_
            refine zo_iload_n (i := i_Mo_prefix) (pc := 119) d_Mo_prefix_119 rfl ?_
            refine zo_aload_n (i := i_Mo_prefix) (pc := 120) d_Mo_prefix_120 rfl rfl ?_
            refine zo_iload_n (i := i_Mo_prefix) (pc := 121) d_Mo_prefix_121 rfl ?_
            refine zc_V1 (i := i_Mo_prefix) (pc := 122) 10 rfl m_Mo_end (ztb_of k_848 rfl) (ztb_of k_850 rfl) s_Mo_end d_Mo_prefix_122 (Nat.le_of_ble_eq_true rfl) (Nat.le_of_ble_eq_true rfl) (Nat.le_of_ble_eq_true rfl) (Nat.le_of_ble_eq_true rfl) (hs.get (t := 0) rfl) (l_end ⟨_, _, hr, hs⟩ ?_)
            refine zo_iconst (i := i_Mo_prefix) (pc := 125) (v := 0) d_Mo_prefix_125 (by decide) ?_
            refine zc_V4 (i := i_Mo_prefix) (pc := 126) 10 rfl m_Mo_enter (ztb_of k_1036 rfl) (ztb_of k_1038 rfl) s_Mo_enter d_Mo_prefix_126 (Nat.le_of_ble_eq_true rfl) (Nat.le_of_ble_eq_true rfl) (Nat.le_of_ble_eq_true rfl) (Nat.le_of_ble_eq_true rfl) (hs.get (t := 0) rfl) (l_enter (c := 1) (e := zend q.1.2.1 v) ⟨_, _, hr, hs⟩ (by omega) (by rw [a1]; exact (cv_end (end_ne (by omega) hg.2.2.1)).symm) fun ws hS => ?_)
            refine tail (tkeep 4 (p, zend q.1.2.1 v, 0) q.2.2.2.2.2.1) ws ?_ hS
            rw [if_neg ((fl1 (fl3 hg.2.1)).1.mp h94)]
            unfold hearOnLinkT
            rw [if_neg h98]
          · refine zo_aload_n (i := i_Mo_prefix) (pc := 101) d_Mo_prefix_101 rfl rfl ?_
            refine zo_iconst (i := i_Mo_prefix) (pc := 102) (v := 1) d_Mo_prefix_102 (by decide) ?_
            refine zo_iload_n (i := i_Mo_prefix) (pc := 103) d_Mo_prefix_103 rfl ?_
            refine zc_V2 (i := i_Mo_prefix) (pc := 104) 10 rfl m_Mo_leave (ztb_of k_1028 rfl) (ztb_of k_1030 rfl) s_Mo_leave d_Mo_prefix_104 (Nat.le_of_ble_eq_true rfl) (Nat.le_of_ble_eq_true rfl) (Nat.le_of_ble_eq_true rfl) (Nat.le_of_ble_eq_true rfl) (hs.get (t := 0) rfl) (l_leave (c := 1) ⟨_, _, hr, hs⟩ (by omega) a12 fun ws hS => ?_)
            refine zo_goto (i := i_Mo_prefix) (pc := 107) (tgt := 129) d_Mo_prefix_107 (by decide) ?_
            refine tail (q.2.2.2.2.2.1.filter (fun e => !decide (e.1 = p))) ws ?_ hS
            rw [if_neg ((fl1 (fl3 hg.2.1)).1.mp h94)]
            unfold hearOnLinkT
            rw [if_pos h98]
    · refine zo_iload_n (i := i_Mo_prefix) (pc := 0) d_Mo_prefix_0 rfl ?_
      refine zo_iconst (i := i_Mo_prefix) (pc := 1) (v := 1) d_Mo_prefix_1 (by decide) ?_
      refine zo_icmp_lt (i := i_Mo_prefix) (pc := 2) (tgt := 45) d_Mo_prefix_2 (by decide) (fun h2 => False.elim (by first | exact absurd h2 ((zw_iff.mp hg.1).1) | exact absurd ((zw_iff.mp hg.1).1) h2)) (fun h2 => ?_)
      refine zo_iload_n (i := i_Mo_prefix) (pc := 5) d_Mo_prefix_5 rfl ?_
      refine zo_sipush (i := i_Mo_prefix) (pc := 6) (v := 250) d_Mo_prefix_6 (by decide) ?_
      refine zo_icmp_gt (i := i_Mo_prefix) (pc := 9) (tgt := 45) d_Mo_prefix_9 (by decide) (fun h9 => False.elim (by first | exact absurd h9 ((zw_iff.mp hg.1).2) | exact absurd ((zw_iff.mp hg.1).2) h9)) (fun h9 => ?_)
      refine zo_iload_n (i := i_Mo_prefix) (pc := 12) d_Mo_prefix_12 rfl ?_
      refine zo_if_lt (i := i_Mo_prefix) (pc := 13) (tgt := 45) d_Mo_prefix_13 (by decide) (fun h13 => False.elim (by first | exact absurd h13 ((zw_iff.mp hg.2.1).1) | exact absurd ((zw_iff.mp hg.2.1).1) h13)) (fun h13 => ?_)
      refine zo_iload_n (i := i_Mo_prefix) (pc := 16) d_Mo_prefix_16 rfl ?_
      refine zo_iconst (i := i_Mo_prefix) (pc := 17) (v := 3) d_Mo_prefix_17 (by decide) ?_
      refine zo_icmp_gt (i := i_Mo_prefix) (pc := 18) (tgt := 45) d_Mo_prefix_18 (by decide) (fun h18 => False.elim (by first | exact absurd h18 ((zw_iff.mp hg.2.1).2) | exact absurd ((zw_iff.mp hg.2.1).2) h18)) (fun h18 => ?_)
      refine zo_iload_n (i := i_Mo_prefix) (pc := 21) d_Mo_prefix_21 rfl ?_
      refine zo_if_lt (i := i_Mo_prefix) (pc := 22) (tgt := 45) d_Mo_prefix_22 (by decide) (fun h22 => False.elim (by first | exact absurd h22 ((zw_iff.mp hg.2.2.1).1) | exact absurd ((zw_iff.mp hg.2.2.1).1) h22)) (fun h22 => ?_)
      refine zo_iload_n (i := i_Mo_prefix) (pc := 25) d_Mo_prefix_25 rfl ?_
      refine zo_sipush (i := i_Mo_prefix) (pc := 26) (v := 1000) d_Mo_prefix_26 (by decide) ?_
      refine zo_icmp_gt (i := i_Mo_prefix) (pc := 29) (tgt := 45) d_Mo_prefix_29 (by decide) (fun h29 => False.elim (by first | exact absurd h29 ((zw_iff.mp hg.2.2.1).2) | exact absurd ((zw_iff.mp hg.2.2.1).2) h29)) (fun h29 => ?_)
      refine zo_iload (i := i_Mo_prefix) (pc := 32) d_Mo_prefix_32 rfl ?_
      refine zo_if_lt (i := i_Mo_prefix) (pc := 34) (tgt := 45) d_Mo_prefix_34 (by decide) (fun h34 => False.elim (by first | exact absurd h34 ((zw_iff.mp hg.2.2.2).1) | exact absurd ((zw_iff.mp hg.2.2.2).1) h34)) (fun h34 => ?_)
      refine zo_iload (i := i_Mo_prefix) (pc := 37) d_Mo_prefix_37 rfl ?_
      refine zo_sipush (i := i_Mo_prefix) (pc := 39) (v := 1000) d_Mo_prefix_39 (by decide) ?_
      refine zo_icmp_le (i := i_Mo_prefix) (pc := 42) (tgt := 49) d_Mo_prefix_42 (by decide) (fun h42 => ?_) (fun h42 => False.elim (by first | exact absurd h42 ((Int32.not_lt.mp (zw_iff.mp hg.2.2.2).2)) | exact absurd ((Int32.not_lt.mp (zw_iff.mp hg.2.2.2).2)) h42))
      refine zo_iconst (i := i_Mo_prefix) (pc := 49) (v := 0) d_Mo_prefix_49 (by decide) ?_
      refine zo_istore (i := i_Mo_prefix) (pc := 50) d_Mo_prefix_50 (Nat.le_of_ble_eq_true rfl) ?_
      refine zo_aload_n (i := i_Mo_prefix) (pc := 52) d_Mo_prefix_52 rfl rfl ?_
      refine zo_iload (i := i_Mo_prefix) (pc := 53) d_Mo_prefix_53 rfl ?_
      refine zo_if_eq (i := i_Mo_prefix) (pc := 55) (tgt := 62) d_Mo_prefix_55 (by decide) (fun h55 => ?_) (fun h55 => False.elim (by first | exact absurd h55 (rfl) | exact absurd (rfl) h55))
      refine zo_aload_n (i := i_Mo_prefix) (pc := 62) d_Mo_prefix_62 rfl rfl ?_
      refine zo_get (i := i_Mo_prefix) (pc := 63) 10 3 rfl zok_Mo (Nat.le_of_ble_eq_true rfl) (ztb_of k_861 rfl) d_Mo_prefix_63 (fun _ _ _ h => h) (hs.get (t := 0) rfl) rfl ?_
      refine zo_if_eq (i := i_Mo_prefix) (pc := 66) (tgt := 73) d_Mo_prefix_66 (by decide) (fun h66 => False.elim (by first | exact absurd h66 ((by rw [hr.1.2.2.2.1, hdn]; decide)) | exact absurd ((by rw [hr.1.2.2.2.1, hdn]; decide)) h66)) (fun h66 => ?_)
      refine zo_iconst (i := i_Mo_prefix) (pc := 69) (v := 2) d_Mo_prefix_69 (by decide) ?_
      refine zo_goto (i := i_Mo_prefix) (pc := 70) (tgt := 74) d_Mo_prefix_70 (by decide) ?_
      refine zh_put (i := i_Mo_prefix) (pc := 74) 10 0 rfl zok_Mo (Nat.le_of_ble_eq_true rfl) (ztb_of k_858 rfl) rfl d_Mo_prefix_74 (fun _ _ _ h => h) (t_Mo_ok 0 (Nat.le_of_ble_eq_true rfl)) rfl rfl hs 0 rfl (Nat.le_of_ble_eq_true rfl) fun ws hs => ?_
      refine zo_aload_n (i := i_Mo_prefix) (pc := 77) d_Mo_prefix_77 rfl rfl ?_
      refine zo_get (i := i_Mo_prefix) (pc := 78) 10 0 rfl zok_Mo (Nat.le_of_ble_eq_true rfl) (ztb_of k_858 rfl) d_Mo_prefix_78 (fun _ _ _ h => h) (hs.get (t := 0) rfl) rfl ?_
      refine zo_if_ne (i := i_Mo_prefix) (pc := 81) (tgt := 89) d_Mo_prefix_81 (by decide) (fun h81 => ?_) (fun h81 => False.elim (by first | exact absurd h81 ((by decide)) | exact absurd ((by decide)) h81))
      refine zo_return (i := i_Mo_prefix) (pc := 89) hq d_Mo_prefix_89 rfl (Nat.le_of_ble_eq_true rfl) (Nat.le_of_ble_eq_true rfl) ?_
      exact k2 hg hdn ws ⟨_, _, hr.thrown, hs⟩
  · refine zo_iload_n (i := i_Mo_prefix) (pc := 0) d_Mo_prefix_0 rfl ?_
    refine zo_iconst (i := i_Mo_prefix) (pc := 1) (v := 1) d_Mo_prefix_1 (by decide) ?_
    refine zo_icmp_lt (i := i_Mo_prefix) (pc := 2) (tgt := 45) d_Mo_prefix_2 (by decide) (fun h2 => ?_) (fun h2 => ?_)
    · refine zo_iconst (i := i_Mo_prefix) (pc := 45) (v := 1) d_Mo_prefix_45 (by decide) ?_
      refine zo_goto (i := i_Mo_prefix) (pc := 46) (tgt := 50) d_Mo_prefix_46 (by decide) ?_
      refine zo_istore (i := i_Mo_prefix) (pc := 50) d_Mo_prefix_50 (Nat.le_of_ble_eq_true rfl) ?_
      refine zo_aload_n (i := i_Mo_prefix) (pc := 52) d_Mo_prefix_52 rfl rfl ?_
      refine zo_iload (i := i_Mo_prefix) (pc := 53) d_Mo_prefix_53 rfl ?_
      refine zo_if_eq (i := i_Mo_prefix) (pc := 55) (tgt := 62) d_Mo_prefix_55 (by decide) (fun h55 => False.elim (by first | exact absurd h55 ((by decide)) | exact absurd ((by decide)) h55)) (fun h55 => ?_)
      refine zo_iconst (i := i_Mo_prefix) (pc := 58) (v := 1) d_Mo_prefix_58 (by decide) ?_
      refine zo_goto (i := i_Mo_prefix) (pc := 59) (tgt := 74) d_Mo_prefix_59 (by decide) ?_
      refine zh_put (i := i_Mo_prefix) (pc := 74) 10 0 rfl zok_Mo (Nat.le_of_ble_eq_true rfl) (ztb_of k_858 rfl) rfl d_Mo_prefix_74 (fun _ _ _ h => h) (t_Mo_ok 0 (Nat.le_of_ble_eq_true rfl)) rfl rfl hs 0 rfl (Nat.le_of_ble_eq_true rfl) fun ws hs => ?_
      refine zo_aload_n (i := i_Mo_prefix) (pc := 77) d_Mo_prefix_77 rfl rfl ?_
      refine zo_get (i := i_Mo_prefix) (pc := 78) 10 0 rfl zok_Mo (Nat.le_of_ble_eq_true rfl) (ztb_of k_858 rfl) d_Mo_prefix_78 (fun _ _ _ h => h) (hs.get (t := 0) rfl) rfl ?_
      refine zo_if_ne (i := i_Mo_prefix) (pc := 81) (tgt := 89) d_Mo_prefix_81 (by decide) (fun h81 => ?_) (fun h81 => False.elim (by first | exact absurd h81 ((by decide)) | exact absurd ((by decide)) h81))
      refine zo_return (i := i_Mo_prefix) (pc := 89) hq d_Mo_prefix_89 rfl (Nat.le_of_ble_eq_true rfl) (Nat.le_of_ble_eq_true rfl) ?_
      exact k1 hg ws ⟨_, _, hr.thrown, hs⟩
    · refine zo_iload_n (i := i_Mo_prefix) (pc := 5) d_Mo_prefix_5 rfl ?_
      refine zo_sipush (i := i_Mo_prefix) (pc := 6) (v := 250) d_Mo_prefix_6 (by decide) ?_
      refine zo_icmp_gt (i := i_Mo_prefix) (pc := 9) (tgt := 45) d_Mo_prefix_9 (by decide) (fun h9 => ?_) (fun h9 => ?_)
      · refine zo_iconst (i := i_Mo_prefix) (pc := 45) (v := 1) d_Mo_prefix_45 (by decide) ?_
        refine zo_goto (i := i_Mo_prefix) (pc := 46) (tgt := 50) d_Mo_prefix_46 (by decide) ?_
        refine zo_istore (i := i_Mo_prefix) (pc := 50) d_Mo_prefix_50 (Nat.le_of_ble_eq_true rfl) ?_
        refine zo_aload_n (i := i_Mo_prefix) (pc := 52) d_Mo_prefix_52 rfl rfl ?_
        refine zo_iload (i := i_Mo_prefix) (pc := 53) d_Mo_prefix_53 rfl ?_
        refine zo_if_eq (i := i_Mo_prefix) (pc := 55) (tgt := 62) d_Mo_prefix_55 (by decide) (fun h55 => False.elim (by first | exact absurd h55 ((by decide)) | exact absurd ((by decide)) h55)) (fun h55 => ?_)
        refine zo_iconst (i := i_Mo_prefix) (pc := 58) (v := 1) d_Mo_prefix_58 (by decide) ?_
        refine zo_goto (i := i_Mo_prefix) (pc := 59) (tgt := 74) d_Mo_prefix_59 (by decide) ?_
        refine zh_put (i := i_Mo_prefix) (pc := 74) 10 0 rfl zok_Mo (Nat.le_of_ble_eq_true rfl) (ztb_of k_858 rfl) rfl d_Mo_prefix_74 (fun _ _ _ h => h) (t_Mo_ok 0 (Nat.le_of_ble_eq_true rfl)) rfl rfl hs 0 rfl (Nat.le_of_ble_eq_true rfl) fun ws hs => ?_
        refine zo_aload_n (i := i_Mo_prefix) (pc := 77) d_Mo_prefix_77 rfl rfl ?_
        refine zo_get (i := i_Mo_prefix) (pc := 78) 10 0 rfl zok_Mo (Nat.le_of_ble_eq_true rfl) (ztb_of k_858 rfl) d_Mo_prefix_78 (fun _ _ _ h => h) (hs.get (t := 0) rfl) rfl ?_
        refine zo_if_ne (i := i_Mo_prefix) (pc := 81) (tgt := 89) d_Mo_prefix_81 (by decide) (fun h81 => ?_) (fun h81 => False.elim (by first | exact absurd h81 ((by decide)) | exact absurd ((by decide)) h81))
        refine zo_return (i := i_Mo_prefix) (pc := 89) hq d_Mo_prefix_89 rfl (Nat.le_of_ble_eq_true rfl) (Nat.le_of_ble_eq_true rfl) ?_
        exact k1 hg ws ⟨_, _, hr.thrown, hs⟩
      · refine zo_iload_n (i := i_Mo_prefix) (pc := 12) d_Mo_prefix_12 rfl ?_
        refine zo_if_lt (i := i_Mo_prefix) (pc := 13) (tgt := 45) d_Mo_prefix_13 (by decide) (fun h13 => ?_) (fun h13 => ?_)
        · refine zo_iconst (i := i_Mo_prefix) (pc := 45) (v := 1) d_Mo_prefix_45 (by decide) ?_
          refine zo_goto (i := i_Mo_prefix) (pc := 46) (tgt := 50) d_Mo_prefix_46 (by decide) ?_
          refine zo_istore (i := i_Mo_prefix) (pc := 50) d_Mo_prefix_50 (Nat.le_of_ble_eq_true rfl) ?_
          refine zo_aload_n (i := i_Mo_prefix) (pc := 52) d_Mo_prefix_52 rfl rfl ?_
          refine zo_iload (i := i_Mo_prefix) (pc := 53) d_Mo_prefix_53 rfl ?_
          refine zo_if_eq (i := i_Mo_prefix) (pc := 55) (tgt := 62) d_Mo_prefix_55 (by decide) (fun h55 => False.elim (by first | exact absurd h55 ((by decide)) | exact absurd ((by decide)) h55)) (fun h55 => ?_)
          refine zo_iconst (i := i_Mo_prefix) (pc := 58) (v := 1) d_Mo_prefix_58 (by decide) ?_
          refine zo_goto (i := i_Mo_prefix) (pc := 59) (tgt := 74) d_Mo_prefix_59 (by decide) ?_
          refine zh_put (i := i_Mo_prefix) (pc := 74) 10 0 rfl zok_Mo (Nat.le_of_ble_eq_true rfl) (ztb_of k_858 rfl) rfl d_Mo_prefix_74 (fun _ _ _ h => h) (t_Mo_ok 0 (Nat.le_of_ble_eq_true rfl)) rfl rfl hs 0 rfl (Nat.le_of_ble_eq_true rfl) fun ws hs => ?_
          refine zo_aload_n (i := i_Mo_prefix) (pc := 77) d_Mo_prefix_77 rfl rfl ?_
          refine zo_get (i := i_Mo_prefix) (pc := 78) 10 0 rfl zok_Mo (Nat.le_of_ble_eq_true rfl) (ztb_of k_858 rfl) d_Mo_prefix_78 (fun _ _ _ h => h) (hs.get (t := 0) rfl) rfl ?_
          refine zo_if_ne (i := i_Mo_prefix) (pc := 81) (tgt := 89) d_Mo_prefix_81 (by decide) (fun h81 => ?_) (fun h81 => False.elim (by first | exact absurd h81 ((by decide)) | exact absurd ((by decide)) h81))
          refine zo_return (i := i_Mo_prefix) (pc := 89) hq d_Mo_prefix_89 rfl (Nat.le_of_ble_eq_true rfl) (Nat.le_of_ble_eq_true rfl) ?_
          exact k1 hg ws ⟨_, _, hr.thrown, hs⟩
        · refine zo_iload_n (i := i_Mo_prefix) (pc := 16) d_Mo_prefix_16 rfl ?_
          refine zo_iconst (i := i_Mo_prefix) (pc := 17) (v := 3) d_Mo_prefix_17 (by decide) ?_
          refine zo_icmp_gt (i := i_Mo_prefix) (pc := 18) (tgt := 45) d_Mo_prefix_18 (by decide) (fun h18 => ?_) (fun h18 => ?_)
          · refine zo_iconst (i := i_Mo_prefix) (pc := 45) (v := 1) d_Mo_prefix_45 (by decide) ?_
            refine zo_goto (i := i_Mo_prefix) (pc := 46) (tgt := 50) d_Mo_prefix_46 (by decide) ?_
            refine zo_istore (i := i_Mo_prefix) (pc := 50) d_Mo_prefix_50 (Nat.le_of_ble_eq_true rfl) ?_
            refine zo_aload_n (i := i_Mo_prefix) (pc := 52) d_Mo_prefix_52 rfl rfl ?_
            refine zo_iload (i := i_Mo_prefix) (pc := 53) d_Mo_prefix_53 rfl ?_
            refine zo_if_eq (i := i_Mo_prefix) (pc := 55) (tgt := 62) d_Mo_prefix_55 (by decide) (fun h55 => False.elim (by first | exact absurd h55 ((by decide)) | exact absurd ((by decide)) h55)) (fun h55 => ?_)
            refine zo_iconst (i := i_Mo_prefix) (pc := 58) (v := 1) d_Mo_prefix_58 (by decide) ?_
            refine zo_goto (i := i_Mo_prefix) (pc := 59) (tgt := 74) d_Mo_prefix_59 (by decide) ?_
            refine zh_put (i := i_Mo_prefix) (pc := 74) 10 0 rfl zok_Mo (Nat.le_of_ble_eq_true rfl) (ztb_of k_858 rfl) rfl d_Mo_prefix_74 (fun _ _ _ h => h) (t_Mo_ok 0 (Nat.le_of_ble_eq_true rfl)) rfl rfl hs 0 rfl (Nat.le_of_ble_eq_true rfl) fun ws hs => ?_
            refine zo_aload_n (i := i_Mo_prefix) (pc := 77) d_Mo_prefix_77 rfl rfl ?_
            refine zo_get (i := i_Mo_prefix) (pc := 78) 10 0 rfl zok_Mo (Nat.le_of_ble_eq_true rfl) (ztb_of k_858 rfl) d_Mo_prefix_78 (fun _ _ _ h => h) (hs.get (t := 0) rfl) rfl ?_
            refine zo_if_ne (i := i_Mo_prefix) (pc := 81) (tgt := 89) d_Mo_prefix_81 (by decide) (fun h81 => ?_) (fun h81 => False.elim (by first | exact absurd h81 ((by decide)) | exact absurd ((by decide)) h81))
            refine zo_return (i := i_Mo_prefix) (pc := 89) hq d_Mo_prefix_89 rfl (Nat.le_of_ble_eq_true rfl) (Nat.le_of_ble_eq_true rfl) ?_
            exact k1 hg ws ⟨_, _, hr.thrown, hs⟩
          · refine zo_iload_n (i := i_Mo_prefix) (pc := 21) d_Mo_prefix_21 rfl ?_
            refine zo_if_lt (i := i_Mo_prefix) (pc := 22) (tgt := 45) d_Mo_prefix_22 (by decide) (fun h22 => ?_) (fun h22 => ?_)
            · refine zo_iconst (i := i_Mo_prefix) (pc := 45) (v := 1) d_Mo_prefix_45 (by decide) ?_
              refine zo_goto (i := i_Mo_prefix) (pc := 46) (tgt := 50) d_Mo_prefix_46 (by decide) ?_
              refine zo_istore (i := i_Mo_prefix) (pc := 50) d_Mo_prefix_50 (Nat.le_of_ble_eq_true rfl) ?_
              refine zo_aload_n (i := i_Mo_prefix) (pc := 52) d_Mo_prefix_52 rfl rfl ?_
              refine zo_iload (i := i_Mo_prefix) (pc := 53) d_Mo_prefix_53 rfl ?_
              refine zo_if_eq (i := i_Mo_prefix) (pc := 55) (tgt := 62) d_Mo_prefix_55 (by decide) (fun h55 => False.elim (by first | exact absurd h55 ((by decide)) | exact absurd ((by decide)) h55)) (fun h55 => ?_)
              refine zo_iconst (i := i_Mo_prefix) (pc := 58) (v := 1) d_Mo_prefix_58 (by decide) ?_
              refine zo_goto (i := i_Mo_prefix) (pc := 59) (tgt := 74) d_Mo_prefix_59 (by decide) ?_
              refine zh_put (i := i_Mo_prefix) (pc := 74) 10 0 rfl zok_Mo (Nat.le_of_ble_eq_true rfl) (ztb_of k_858 rfl) rfl d_Mo_prefix_74 (fun _ _ _ h => h) (t_Mo_ok 0 (Nat.le_of_ble_eq_true rfl)) rfl rfl hs 0 rfl (Nat.le_of_ble_eq_true rfl) fun ws hs => ?_
              refine zo_aload_n (i := i_Mo_prefix) (pc := 77) d_Mo_prefix_77 rfl rfl ?_
              refine zo_get (i := i_Mo_prefix) (pc := 78) 10 0 rfl zok_Mo (Nat.le_of_ble_eq_true rfl) (ztb_of k_858 rfl) d_Mo_prefix_78 (fun _ _ _ h => h) (hs.get (t := 0) rfl) rfl ?_
              refine zo_if_ne (i := i_Mo_prefix) (pc := 81) (tgt := 89) d_Mo_prefix_81 (by decide) (fun h81 => ?_) (fun h81 => False.elim (by first | exact absurd h81 ((by decide)) | exact absurd ((by decide)) h81))
              refine zo_return (i := i_Mo_prefix) (pc := 89) hq d_Mo_prefix_89 rfl (Nat.le_of_ble_eq_true rfl) (Nat.le_of_ble_eq_true rfl) ?_
              exact k1 hg ws ⟨_, _, hr.thrown, hs⟩
            · refine zo_iload_n (i := i_Mo_prefix) (pc := 25) d_Mo_prefix_25 rfl ?_
              refine zo_sipush (i := i_Mo_prefix) (pc := 26) (v := 1000) d_Mo_prefix_26 (by decide) ?_
              refine zo_icmp_gt (i := i_Mo_prefix) (pc := 29) (tgt := 45) d_Mo_prefix_29 (by decide) (fun h29 => ?_) (fun h29 => ?_)
              · refine zo_iconst (i := i_Mo_prefix) (pc := 45) (v := 1) d_Mo_prefix_45 (by decide) ?_
                refine zo_goto (i := i_Mo_prefix) (pc := 46) (tgt := 50) d_Mo_prefix_46 (by decide) ?_
                refine zo_istore (i := i_Mo_prefix) (pc := 50) d_Mo_prefix_50 (Nat.le_of_ble_eq_true rfl) ?_
                refine zo_aload_n (i := i_Mo_prefix) (pc := 52) d_Mo_prefix_52 rfl rfl ?_
                refine zo_iload (i := i_Mo_prefix) (pc := 53) d_Mo_prefix_53 rfl ?_
                refine zo_if_eq (i := i_Mo_prefix) (pc := 55) (tgt := 62) d_Mo_prefix_55 (by decide) (fun h55 => False.elim (by first | exact absurd h55 ((by decide)) | exact absurd ((by decide)) h55)) (fun h55 => ?_)
                refine zo_iconst (i := i_Mo_prefix) (pc := 58) (v := 1) d_Mo_prefix_58 (by decide) ?_
                refine zo_goto (i := i_Mo_prefix) (pc := 59) (tgt := 74) d_Mo_prefix_59 (by decide) ?_
                refine zh_put (i := i_Mo_prefix) (pc := 74) 10 0 rfl zok_Mo (Nat.le_of_ble_eq_true rfl) (ztb_of k_858 rfl) rfl d_Mo_prefix_74 (fun _ _ _ h => h) (t_Mo_ok 0 (Nat.le_of_ble_eq_true rfl)) rfl rfl hs 0 rfl (Nat.le_of_ble_eq_true rfl) fun ws hs => ?_
                refine zo_aload_n (i := i_Mo_prefix) (pc := 77) d_Mo_prefix_77 rfl rfl ?_
                refine zo_get (i := i_Mo_prefix) (pc := 78) 10 0 rfl zok_Mo (Nat.le_of_ble_eq_true rfl) (ztb_of k_858 rfl) d_Mo_prefix_78 (fun _ _ _ h => h) (hs.get (t := 0) rfl) rfl ?_
                refine zo_if_ne (i := i_Mo_prefix) (pc := 81) (tgt := 89) d_Mo_prefix_81 (by decide) (fun h81 => ?_) (fun h81 => False.elim (by first | exact absurd h81 ((by decide)) | exact absurd ((by decide)) h81))
                refine zo_return (i := i_Mo_prefix) (pc := 89) hq d_Mo_prefix_89 rfl (Nat.le_of_ble_eq_true rfl) (Nat.le_of_ble_eq_true rfl) ?_
                exact k1 hg ws ⟨_, _, hr.thrown, hs⟩
              · refine zo_iload (i := i_Mo_prefix) (pc := 32) d_Mo_prefix_32 rfl ?_
                refine zo_if_lt (i := i_Mo_prefix) (pc := 34) (tgt := 45) d_Mo_prefix_34 (by decide) (fun h34 => ?_) (fun h34 => ?_)
                · refine zo_iconst (i := i_Mo_prefix) (pc := 45) (v := 1) d_Mo_prefix_45 (by decide) ?_
                  refine zo_goto (i := i_Mo_prefix) (pc := 46) (tgt := 50) d_Mo_prefix_46 (by decide) ?_
                  refine zo_istore (i := i_Mo_prefix) (pc := 50) d_Mo_prefix_50 (Nat.le_of_ble_eq_true rfl) ?_
                  refine zo_aload_n (i := i_Mo_prefix) (pc := 52) d_Mo_prefix_52 rfl rfl ?_
                  refine zo_iload (i := i_Mo_prefix) (pc := 53) d_Mo_prefix_53 rfl ?_
                  refine zo_if_eq (i := i_Mo_prefix) (pc := 55) (tgt := 62) d_Mo_prefix_55 (by decide) (fun h55 => False.elim (by first | exact absurd h55 ((by decide)) | exact absurd ((by decide)) h55)) (fun h55 => ?_)
                  refine zo_iconst (i := i_Mo_prefix) (pc := 58) (v := 1) d_Mo_prefix_58 (by decide) ?_
                  refine zo_goto (i := i_Mo_prefix) (pc := 59) (tgt := 74) d_Mo_prefix_59 (by decide) ?_
                  refine zh_put (i := i_Mo_prefix) (pc := 74) 10 0 rfl zok_Mo (Nat.le_of_ble_eq_true rfl) (ztb_of k_858 rfl) rfl d_Mo_prefix_74 (fun _ _ _ h => h) (t_Mo_ok 0 (Nat.le_of_ble_eq_true rfl)) rfl rfl hs 0 rfl (Nat.le_of_ble_eq_true rfl) fun ws hs => ?_
                  refine zo_aload_n (i := i_Mo_prefix) (pc := 77) d_Mo_prefix_77 rfl rfl ?_
                  refine zo_get (i := i_Mo_prefix) (pc := 78) 10 0 rfl zok_Mo (Nat.le_of_ble_eq_true rfl) (ztb_of k_858 rfl) d_Mo_prefix_78 (fun _ _ _ h => h) (hs.get (t := 0) rfl) rfl ?_
                  refine zo_if_ne (i := i_Mo_prefix) (pc := 81) (tgt := 89) d_Mo_prefix_81 (by decide) (fun h81 => ?_) (fun h81 => False.elim (by first | exact absurd h81 ((by decide)) | exact absurd ((by decide)) h81))
                  refine zo_return (i := i_Mo_prefix) (pc := 89) hq d_Mo_prefix_89 rfl (Nat.le_of_ble_eq_true rfl) (Nat.le_of_ble_eq_true rfl) ?_
                  exact k1 hg ws ⟨_, _, hr.thrown, hs⟩
                · refine zo_iload (i := i_Mo_prefix) (pc := 37) d_Mo_prefix_37 rfl ?_
                  refine zo_sipush (i := i_Mo_prefix) (pc := 39) (v := 1000) d_Mo_prefix_39 (by decide) ?_
                  refine zo_icmp_le (i := i_Mo_prefix) (pc := 42) (tgt := 49) d_Mo_prefix_42 (by decide) (fun h42 => False.elim (by first | exact absurd h42 ((fun hh => hg ⟨zw_iff.mpr ⟨h2, h9⟩, zw_iff.mpr ⟨h13, h18⟩, zw_iff.mpr ⟨h22, h29⟩, zw_iff.mpr ⟨h34, Int32.not_lt.mpr hh⟩⟩)) | exact absurd ((fun hh => hg ⟨zw_iff.mpr ⟨h2, h9⟩, zw_iff.mpr ⟨h13, h18⟩, zw_iff.mpr ⟨h22, h29⟩, zw_iff.mpr ⟨h34, Int32.not_lt.mpr hh⟩⟩)) h42)) (fun h42 => ?_)
                  refine zo_iconst (i := i_Mo_prefix) (pc := 45) (v := 1) d_Mo_prefix_45 (by decide) ?_
                  refine zo_goto (i := i_Mo_prefix) (pc := 46) (tgt := 50) d_Mo_prefix_46 (by decide) ?_
                  refine zo_istore (i := i_Mo_prefix) (pc := 50) d_Mo_prefix_50 (Nat.le_of_ble_eq_true rfl) ?_
                  refine zo_aload_n (i := i_Mo_prefix) (pc := 52) d_Mo_prefix_52 rfl rfl ?_
                  refine zo_iload (i := i_Mo_prefix) (pc := 53) d_Mo_prefix_53 rfl ?_
                  refine zo_if_eq (i := i_Mo_prefix) (pc := 55) (tgt := 62) d_Mo_prefix_55 (by decide) (fun h55 => False.elim (by first | exact absurd h55 ((by decide)) | exact absurd ((by decide)) h55)) (fun h55 => ?_)
                  refine zo_iconst (i := i_Mo_prefix) (pc := 58) (v := 1) d_Mo_prefix_58 (by decide) ?_
                  refine zo_goto (i := i_Mo_prefix) (pc := 59) (tgt := 74) d_Mo_prefix_59 (by decide) ?_
                  refine zh_put (i := i_Mo_prefix) (pc := 74) 10 0 rfl zok_Mo (Nat.le_of_ble_eq_true rfl) (ztb_of k_858 rfl) rfl d_Mo_prefix_74 (fun _ _ _ h => h) (t_Mo_ok 0 (Nat.le_of_ble_eq_true rfl)) rfl rfl hs 0 rfl (Nat.le_of_ble_eq_true rfl) fun ws hs => ?_
                  refine zo_aload_n (i := i_Mo_prefix) (pc := 77) d_Mo_prefix_77 rfl rfl ?_
                  refine zo_get (i := i_Mo_prefix) (pc := 78) 10 0 rfl zok_Mo (Nat.le_of_ble_eq_true rfl) (ztb_of k_858 rfl) d_Mo_prefix_78 (fun _ _ _ h => h) (hs.get (t := 0) rfl) rfl ?_
                  refine zo_if_ne (i := i_Mo_prefix) (pc := 81) (tgt := 89) d_Mo_prefix_81 (by decide) (fun h81 => ?_) (fun h81 => False.elim (by first | exact absurd h81 ((by decide)) | exact absurd ((by decide)) h81))
                  refine zo_return (i := i_Mo_prefix) (pc := 89) hq d_Mo_prefix_89 rfl (Nat.le_of_ble_eq_true rfl) (Nat.le_of_ble_eq_true rfl) ?_
                  exact k1 hg ws ⟨_, _, hr.thrown, hs⟩
