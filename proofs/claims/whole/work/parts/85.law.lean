/-! The law, call by call (walks by a program, gen85.py). -/
abbrev i_La_law : zY := (y_La_law, b_La_law, 7, (some .boolean), 14, 601024, 7293000)
theorem zLaw.len5 {g : zG} {A B : Nat → Nat} {lo : Nat} {S : va_W} {qc qm : hT} {t : Int32} {fl : Nat → Int64} {ws : va_W} (h : zLaw g A B lo S qc qm t fl ws) : qm.2.2.1.length ≤ 5 := by
  obtain ⟨m, F, hr, hh⟩ := h
  exact hr.2.2.1.2.1
theorem law_tick {x0 : zX} {g : zG} {A B : Nat → Nat} {lo sc n c : Nat} {fs : Nat → Int32} {q : hT} {t : Int32} {fl : Nat → Int64} {ws : va_W} {T U cl sl : Nat} {o5 o6 : Option Value} (hnt : g.1.stackTraces = false) (hX : va_X sc n fs x0.2.2.1 x0.2.2.1.heap) (hlt : sc < g.2.2.2) (hL : zLaw g A B lo [] (q) (q) t fl ws) (hi : hI q T U) (hTT : T + 100 < 1000000) (hU : U + 1100 < 2000000000) (hcl : cl + 6 ≤ 601024) (hsl : sl + 41 ≤ 7293000) (hc : 5 * c + 6 ≤ n) (hn : n < 1000000) (k : ∀ (q2 : hT) (t2 : Int32) (fl2 : Nat → Int64) (w : va_W) (p5 p6 : Option Value) (cl2 sl2 : Nat), cl2 ≤ cl + 6 → sl2 ≤ sl + 41 → zLaw g A B lo [] (q2) (q2) t2 fl2 w → hI q2 (T + 100) (U + 1100) → zW x0 g i_La_law 1070 [some (.ref sc), some (.ref (A 0)), some (.ref (B 0)), some (.ref lo), some (.int (nI (5 * c + 1))), p5, p6] [] w cl2 sl2) : zW x0 g i_La_law 132 [some (.ref sc), some (.ref (A 0)), some (.ref (B 0)), some (.ref lo), some (.int (nI (5 * c + 1))), o5, o6] [] ws cl sl := by
  obtain ⟨fB, hB⟩ := hL.mo
  have hA := hL.host
  have hlo := hL.ans
  refine zo_aload_n (i := i_La_law) (pc := 132) d_La_law_132 rfl rfl ?_
  refine zo_aload_n (i := i_La_law) (pc := 133) d_La_law_133 rfl rfl ?_
  refine zo_iload (i := i_La_law) (pc := 134) d_La_law_134 rfl ?_
  refine zo_iconst (i := i_La_law) (pc := 136) (v := 1) d_La_law_136 (by decide) ?_
  refine zo_iadd (i := i_La_law) (pc := 137) d_La_law_137 ?_
  refine zs_iaload (i := i_La_law) (pc := 138) hX hlt d_La_law_138 (by rw [show nI (5 * c + 1) + 1 = nI (5 * c + 1 + 1) from nI_add _ 1]; exact vp_in_nI (by omega) (by omega)) ?_
  obtain ⟨m, F, hr, hh⟩ := id hL
  refine zw_callS (i := i_La_law) (pc := 139) (av := [.ref (A 0), .int (fs (nI (5 * c + 1) + 1).toNatClampNeg)]) m_La_tick (ztb_of k_351 rfl) (ztb_of k_352 rfl) d_La_law_139 rfl (Nat.le_of_ble_eq_true rfl) (by show cl + 1 ≤ 601024; omega) (by show sl + 6 ≤ 7293000; omega) (Nat.le_of_ble_eq_true rfl) rfl (c_La_tick hnt hh (fun cc hcc h1 h2 ws hw => ?_) (fun hg => ?_))
  · have hL1 : zLaw g A B lo [] (tickT cc q) (q) t fl ws := ⟨m, F, hr, hw⟩
    obtain ⟨fB, hB⟩ := hL1.mo
    have hA := hL1.host
    have hlo := hL1.ans
    obtain ⟨X, hS, back⟩ := hL1.model
    refine zo_istore (i := i_La_law) (pc := 142) d_La_law_142 (Nat.le_of_ble_eq_true rfl) ?_
    refine zo_aload_n (i := i_La_law) (pc := 144) d_La_law_144 rfl rfl ?_
    refine zo_aload_n (i := i_La_law) (pc := 145) d_La_law_145 rfl rfl ?_
    refine zo_iload (i := i_La_law) (pc := 146) d_La_law_146 rfl ?_
    refine zo_iconst (i := i_La_law) (pc := 148) (v := 1) d_La_law_148 (by decide) ?_
    refine zo_iadd (i := i_La_law) (pc := 149) d_La_law_149 ?_
    refine zs_iaload (i := i_La_law) (pc := 150) hX hlt d_La_law_150 (by rw [show nI (5 * c + 1) + 1 = nI (5 * c + 1 + 1) from nI_add _ 1]; exact vp_in_nI (by omega) (by omega)) ?_
    refine zc_V1 (i := i_La_law) (pc := 151) 10 rfl m_Mo_tick (ztb_of k_960 rfl) (ztb_of k_961 rfl) (ztb_of k_962 rfl) d_La_law_151 (Nat.le_of_ble_eq_true rfl) (by show cl + 1 + 0 ≤ 601024; omega) (by show sl + 6 + 0 ≤ 7293000; omega) (Nat.le_of_ble_eq_true rfl) hB (l_tick (n := (fs (nI (5 * c + 1) + 1).toNatClampNeg)) hS hi hTT hU (fun c3 h3 h4 h5 ws hS => ?_) (fun hn2 => absurd (show zwithin (fs (nI (5 * c + 1) + 1).toNatClampNeg) 1 100 = true from by rw [hcc, zw_iff]; exact ⟨nI_nlt (a := cc) (b := 1) h1 (by omega), nI_nlt (a := 100) (b := cc) h2 (by omega)⟩) hn2))
    obtain rfl : cc = c3 := (nI_eq (by omega) (by omega)).mp (hcc.symm.trans h3)
    have hL2 := back _ _ _ hS
    obtain ⟨fB2, hB2⟩ := hL2.mo
    have hlo2 := hL2.ans
    refine zo_aload_n (i := i_La_law) (pc := 154) d_La_law_154 rfl rfl ?_
    refine zc_V0 (i := i_La_law) (pc := 155) 10 rfl m_Mo_thrown (ztb_of k_956 rfl) (ztb_of k_957 rfl) (ztb_of k_958 rfl) d_La_law_155 (Nat.le_of_ble_eq_true rfl) (by show cl + 1 + 0 + 0 ≤ 601024; omega) (by show sl + 6 + 0 + 0 ≤ 7293000; omega) (Nat.le_of_ble_eq_true rfl) hB2 (l_thrown hS ?_)
    refine zo_iload (i := i_La_law) (pc := 158) d_La_law_158 rfl ?_
    refine zo_icmp_eq (i := i_La_law) (pc := 160) (tgt := 165) d_La_law_160 (by decide) (fun h160 => ?_) (fun h160 => False.elim (by first | exact absurd h160 (rfl) | exact absurd (rfl) h160))
    refine zo_goto (i := i_La_law) (pc := 165) (tgt := 1070) d_La_law_165 (by decide) ?_
    exact k _ _ _ _ _ _ _ _ (by show cl + 1 + 0 + 0 ≤ _; omega) (by show sl + 6 + 0 + 0 ≤ _; omega) hL2 ((hI_tick cc hi (by omega) (by omega)).mono (by omega) (by omega) (by omega) (by omega))
  · have hL1 : zLaw g A B lo [] (q) (q) t fl ws := ⟨m, F, hr, hh⟩
    obtain ⟨fB, hB⟩ := hL1.mo
    have hA := hL1.host
    have hlo := hL1.ans
    obtain ⟨X, hS, back⟩ := hL1.model
    refine zo_istore (i := i_La_law) (pc := 142) d_La_law_142 (Nat.le_of_ble_eq_true rfl) ?_
    refine zo_aload_n (i := i_La_law) (pc := 144) d_La_law_144 rfl rfl ?_
    refine zo_aload_n (i := i_La_law) (pc := 145) d_La_law_145 rfl rfl ?_
    refine zo_iload (i := i_La_law) (pc := 146) d_La_law_146 rfl ?_
    refine zo_iconst (i := i_La_law) (pc := 148) (v := 1) d_La_law_148 (by decide) ?_
    refine zo_iadd (i := i_La_law) (pc := 149) d_La_law_149 ?_
    refine zs_iaload (i := i_La_law) (pc := 150) hX hlt d_La_law_150 (by rw [show nI (5 * c + 1) + 1 = nI (5 * c + 1 + 1) from nI_add _ 1]; exact vp_in_nI (by omega) (by omega)) ?_
    refine zc_V1 (i := i_La_law) (pc := 151) 10 rfl m_Mo_tick (ztb_of k_960 rfl) (ztb_of k_961 rfl) (ztb_of k_962 rfl) d_La_law_151 (Nat.le_of_ble_eq_true rfl) (by show cl + 1 + 0 ≤ 601024; omega) (by show sl + 6 + 0 ≤ 7293000; omega) (Nat.le_of_ble_eq_true rfl) hB (l_tick (n := (fs (nI (5 * c + 1) + 1).toNatClampNeg)) hS hi hTT hU (fun c3 h3 h4 h5 => absurd (show zwithin (fs (nI (5 * c + 1) + 1).toNatClampNeg) 1 100 = true from by rw [h3, zw_iff]; exact ⟨nI_nlt (a := c3) (b := 1) h4 (by omega), nI_nlt (a := 100) (b := c3) h5 (by omega)⟩) hg) (fun _ ws hS => ?_))
    have hL2 := back _ _ _ hS
    obtain ⟨fB2, hB2⟩ := hL2.mo
    have hlo2 := hL2.ans
    refine zo_aload_n (i := i_La_law) (pc := 154) d_La_law_154 rfl rfl ?_
    refine zc_V0 (i := i_La_law) (pc := 155) 10 rfl m_Mo_thrown (ztb_of k_956 rfl) (ztb_of k_957 rfl) (ztb_of k_958 rfl) d_La_law_155 (Nat.le_of_ble_eq_true rfl) (by show cl + 1 + 0 + 0 ≤ 601024; omega) (by show sl + 6 + 0 + 0 ≤ 7293000; omega) (Nat.le_of_ble_eq_true rfl) hB2 (l_thrown hS ?_)
    refine zo_iload (i := i_La_law) (pc := 158) d_La_law_158 rfl ?_
    refine zo_icmp_eq (i := i_La_law) (pc := 160) (tgt := 165) d_La_law_160 (by decide) (fun h160 => ?_) (fun h160 => False.elim (by first | exact absurd h160 (rfl) | exact absurd (rfl) h160))
    refine zo_goto (i := i_La_law) (pc := 165) (tgt := 1070) d_La_law_165 (by decide) ?_
    exact k _ _ _ _ _ _ _ _ (by show cl + 1 + 0 + 0 ≤ _; omega) (by show sl + 6 + 0 + 0 ≤ _; omega) hL2 (hi.mono (by omega) (by omega) (by omega) (by omega))
theorem law_router {x0 : zX} {g : zG} {A B : Nat → Nat} {lo sc n c : Nat} {fs : Nat → Int32} {q : hT} {t : Int32} {fl : Nat → Int64} {ws : va_W} {T U cl sl : Nat} {o5 o6 : Option Value} (hnt : g.1.stackTraces = false) (hX : va_X sc n fs x0.2.2.1 x0.2.2.1.heap) (hlt : sc < g.2.2.2) (hL : zLaw g A B lo [] (q) (q) t fl ws) (hi : hI q T U) (hTT : T + 100 < 1000000) (hU : U + 1100 < 2000000000) (hcl : cl + 6 ≤ 601024) (hsl : sl + 41 ≤ 7293000) (hc : 5 * c + 6 ≤ n) (hn : n < 1000000) (k : ∀ (q2 : hT) (t2 : Int32) (fl2 : Nat → Int64) (w : va_W) (p5 p6 : Option Value) (cl2 sl2 : Nat), cl2 ≤ cl + 6 → sl2 ≤ sl + 41 → zLaw g A B lo [] (q2) (q2) t2 fl2 w → hI q2 (T + 100) (U + 1100) → zW x0 g i_La_law 1070 [some (.ref sc), some (.ref (A 0)), some (.ref (B 0)), some (.ref lo), some (.int (nI (5 * c + 1))), p5, p6] [] w cl2 sl2) : zW x0 g i_La_law 168 [some (.ref sc), some (.ref (A 0)), some (.ref (B 0)), some (.ref lo), some (.int (nI (5 * c + 1))), o5, o6] [] ws cl sl := by
  obtain ⟨fB, hB⟩ := hL.mo
  have hA := hL.host
  have hlo := hL.ans
  refine zo_aload_n (i := i_La_law) (pc := 168) d_La_law_168 rfl rfl ?_
  refine zo_aload_n (i := i_La_law) (pc := 169) d_La_law_169 rfl rfl ?_
  refine zo_iload (i := i_La_law) (pc := 170) d_La_law_170 rfl ?_
  refine zo_iconst (i := i_La_law) (pc := 172) (v := 1) d_La_law_172 (by decide) ?_
  refine zo_iadd (i := i_La_law) (pc := 173) d_La_law_173 ?_
  refine zs_iaload (i := i_La_law) (pc := 174) hX hlt d_La_law_174 (by rw [show nI (5 * c + 1) + 1 = nI (5 * c + 1 + 1) from nI_add _ 1]; exact vp_in_nI (by omega) (by omega)) ?_
  refine zo_aload_n (i := i_La_law) (pc := 175) d_La_law_175 rfl rfl ?_
  refine zo_iload (i := i_La_law) (pc := 176) d_La_law_176 rfl ?_
  refine zo_iconst (i := i_La_law) (pc := 178) (v := 2) d_La_law_178 (by decide) ?_
  refine zo_iadd (i := i_La_law) (pc := 179) d_La_law_179 ?_
  refine zs_iaload (i := i_La_law) (pc := 180) hX hlt d_La_law_180 (by rw [show nI (5 * c + 1) + 2 = nI (5 * c + 1 + 2) from nI_add _ 2]; exact vp_in_nI (by omega) (by omega)) ?_
  refine zo_aload_n (i := i_La_law) (pc := 181) d_La_law_181 rfl rfl ?_
  refine zo_iload (i := i_La_law) (pc := 182) d_La_law_182 rfl ?_
  refine zo_iconst (i := i_La_law) (pc := 184) (v := 3) d_La_law_184 (by decide) ?_
  refine zo_iadd (i := i_La_law) (pc := 185) d_La_law_185 ?_
  refine zs_iaload (i := i_La_law) (pc := 186) hX hlt d_La_law_186 (by rw [show nI (5 * c + 1) + 3 = nI (5 * c + 1 + 3) from nI_add _ 3]; exact vp_in_nI (by omega) (by omega)) ?_
  refine zo_aload_n (i := i_La_law) (pc := 187) d_La_law_187 rfl rfl ?_
  refine zo_iload (i := i_La_law) (pc := 188) d_La_law_188 rfl ?_
  refine zo_iconst (i := i_La_law) (pc := 190) (v := 4) d_La_law_190 (by decide) ?_
  refine zo_iadd (i := i_La_law) (pc := 191) d_La_law_191 ?_
  refine zs_iaload (i := i_La_law) (pc := 192) hX hlt d_La_law_192 (by rw [show nI (5 * c + 1) + 4 = nI (5 * c + 1 + 4) from nI_add _ 4]; exact vp_in_nI (by omega) (by omega)) ?_
  obtain ⟨m, F, hr, hh⟩ := id hL
  refine zw_callS (i := i_La_law) (pc := 193) (av := [.ref (A 0), .int (fs (nI (5 * c + 1) + 1).toNatClampNeg), .int (fs (nI (5 * c + 1) + 2).toNatClampNeg), .int (fs (nI (5 * c + 1) + 3).toNatClampNeg), .int (fs (nI (5 * c + 1) + 4).toNatClampNeg)]) m_La_router (ztb_of k_501 rfl) (ztb_of k_502 rfl) d_La_law_193 rfl (Nat.le_of_ble_eq_true rfl) (by show cl + 6 ≤ 601024; omega) (by show sl + 41 ≤ 7293000; omega) (Nat.le_of_ble_eq_true rfl) rfl (c_La_router hnt hh (fun hg hd ws hw => ?_) (fun hg => ?_) (fun hg hd => ?_))
  · have hL1 : zLaw g A B lo [] (routerT q (fs (nI (5 * c + 1) + 1).toNatClampNeg) (fs (nI (5 * c + 1) + 2).toNatClampNeg) (fs (nI (5 * c + 1) + 3).toNatClampNeg) (fs (nI (5 * c + 1) + 4).toNatClampNeg)) (q) t fl ws := ⟨m, F, hr, hw⟩
    obtain ⟨fB, hB⟩ := hL1.mo
    have hA := hL1.host
    have hlo := hL1.ans
    obtain ⟨X, hS, back⟩ := hL1.model
    refine zo_istore (i := i_La_law) (pc := 196) d_La_law_196 (Nat.le_of_ble_eq_true rfl) ?_
    refine zo_aload_n (i := i_La_law) (pc := 198) d_La_law_198 rfl rfl ?_
    refine zo_aload_n (i := i_La_law) (pc := 199) d_La_law_199 rfl rfl ?_
    refine zo_iload (i := i_La_law) (pc := 200) d_La_law_200 rfl ?_
    refine zo_iconst (i := i_La_law) (pc := 202) (v := 1) d_La_law_202 (by decide) ?_
    refine zo_iadd (i := i_La_law) (pc := 203) d_La_law_203 ?_
    refine zs_iaload (i := i_La_law) (pc := 204) hX hlt d_La_law_204 (by rw [show nI (5 * c + 1) + 1 = nI (5 * c + 1 + 1) from nI_add _ 1]; exact vp_in_nI (by omega) (by omega)) ?_
    refine zo_aload_n (i := i_La_law) (pc := 205) d_La_law_205 rfl rfl ?_
    refine zo_iload (i := i_La_law) (pc := 206) d_La_law_206 rfl ?_
    refine zo_iconst (i := i_La_law) (pc := 208) (v := 2) d_La_law_208 (by decide) ?_
    refine zo_iadd (i := i_La_law) (pc := 209) d_La_law_209 ?_
    refine zs_iaload (i := i_La_law) (pc := 210) hX hlt d_La_law_210 (by rw [show nI (5 * c + 1) + 2 = nI (5 * c + 1 + 2) from nI_add _ 2]; exact vp_in_nI (by omega) (by omega)) ?_
    refine zo_aload_n (i := i_La_law) (pc := 211) d_La_law_211 rfl rfl ?_
    refine zo_iload (i := i_La_law) (pc := 212) d_La_law_212 rfl ?_
    refine zo_iconst (i := i_La_law) (pc := 214) (v := 3) d_La_law_214 (by decide) ?_
    refine zo_iadd (i := i_La_law) (pc := 215) d_La_law_215 ?_
    refine zs_iaload (i := i_La_law) (pc := 216) hX hlt d_La_law_216 (by rw [show nI (5 * c + 1) + 3 = nI (5 * c + 1 + 3) from nI_add _ 3]; exact vp_in_nI (by omega) (by omega)) ?_
    refine zo_aload_n (i := i_La_law) (pc := 217) d_La_law_217 rfl rfl ?_
    refine zo_iload (i := i_La_law) (pc := 218) d_La_law_218 rfl ?_
    refine zo_iconst (i := i_La_law) (pc := 220) (v := 4) d_La_law_220 (by decide) ?_
    refine zo_iadd (i := i_La_law) (pc := 221) d_La_law_221 ?_
    refine zs_iaload (i := i_La_law) (pc := 222) hX hlt d_La_law_222 (by rw [show nI (5 * c + 1) + 4 = nI (5 * c + 1 + 4) from nI_add _ 4]; exact vp_in_nI (by omega) (by omega)) ?_
    refine zc_V4 (i := i_La_law) (pc := 223) 10 rfl m_Mo_router (ztb_of k_1000 rfl) (ztb_of k_1001 rfl) (ztb_of k_1002 rfl) d_La_law_223 (Nat.le_of_ble_eq_true rfl) (by show cl + 6 + 0 ≤ 601024; omega) (by show sl + 41 + 0 ≤ 7293000; omega) (Nat.le_of_ble_eq_true rfl) hB (l_router hS hi (by omega) (fun _ _ ws hS => ?_) (fun hn2 => absurd hg hn2) (fun _ hd2 => absurd (hd.symm.trans hd2) (by decide)))
    have hL2 := back _ _ _ hS
    obtain ⟨fB2, hB2⟩ := hL2.mo
    have hlo2 := hL2.ans
    refine zo_aload_n (i := i_La_law) (pc := 226) d_La_law_226 rfl rfl ?_
    refine zc_V0 (i := i_La_law) (pc := 227) 10 rfl m_Mo_thrown (ztb_of k_956 rfl) (ztb_of k_957 rfl) (ztb_of k_958 rfl) d_La_law_227 (Nat.le_of_ble_eq_true rfl) (by show cl + 6 + 0 + 0 ≤ 601024; omega) (by show sl + 41 + 0 + 0 ≤ 7293000; omega) (Nat.le_of_ble_eq_true rfl) hB2 (l_thrown hS ?_)
    refine zo_iload (i := i_La_law) (pc := 230) d_La_law_230 rfl ?_
    refine zo_icmp_eq (i := i_La_law) (pc := 232) (tgt := 237) d_La_law_232 (by decide) (fun h232 => ?_) (fun h232 => False.elim (by first | exact absurd h232 (rfl) | exact absurd (rfl) h232))
    refine zo_goto (i := i_La_law) (pc := 237) (tgt := 1070) d_La_law_237 (by decide) ?_
    exact k _ _ _ _ _ _ _ _ (by show cl + 6 + 0 + 0 ≤ _; omega) (by show sl + 41 + 0 + 0 ≤ _; omega) hL2 ((hI_router (n := (fs (nI (5 * c + 1) + 2).toNatClampNeg)) (l := (fs (nI (5 * c + 1) + 3).toNatClampNeg)) (z := (fs (nI (5 * c + 1) + 4).toNatClampNeg)) hi (by omega) hg.1).mono (by omega) (by omega) (by omega) (by omega))
  · have hL1 : zLaw g A B lo [] (q) (q) t fl ws := ⟨m, F, hr, hh⟩
    obtain ⟨fB, hB⟩ := hL1.mo
    have hA := hL1.host
    have hlo := hL1.ans
    obtain ⟨X, hS, back⟩ := hL1.model
    refine zo_istore (i := i_La_law) (pc := 196) d_La_law_196 (Nat.le_of_ble_eq_true rfl) ?_
    refine zo_aload_n (i := i_La_law) (pc := 198) d_La_law_198 rfl rfl ?_
    refine zo_aload_n (i := i_La_law) (pc := 199) d_La_law_199 rfl rfl ?_
    refine zo_iload (i := i_La_law) (pc := 200) d_La_law_200 rfl ?_
    refine zo_iconst (i := i_La_law) (pc := 202) (v := 1) d_La_law_202 (by decide) ?_
    refine zo_iadd (i := i_La_law) (pc := 203) d_La_law_203 ?_
    refine zs_iaload (i := i_La_law) (pc := 204) hX hlt d_La_law_204 (by rw [show nI (5 * c + 1) + 1 = nI (5 * c + 1 + 1) from nI_add _ 1]; exact vp_in_nI (by omega) (by omega)) ?_
    refine zo_aload_n (i := i_La_law) (pc := 205) d_La_law_205 rfl rfl ?_
    refine zo_iload (i := i_La_law) (pc := 206) d_La_law_206 rfl ?_
    refine zo_iconst (i := i_La_law) (pc := 208) (v := 2) d_La_law_208 (by decide) ?_
    refine zo_iadd (i := i_La_law) (pc := 209) d_La_law_209 ?_
    refine zs_iaload (i := i_La_law) (pc := 210) hX hlt d_La_law_210 (by rw [show nI (5 * c + 1) + 2 = nI (5 * c + 1 + 2) from nI_add _ 2]; exact vp_in_nI (by omega) (by omega)) ?_
    refine zo_aload_n (i := i_La_law) (pc := 211) d_La_law_211 rfl rfl ?_
    refine zo_iload (i := i_La_law) (pc := 212) d_La_law_212 rfl ?_
    refine zo_iconst (i := i_La_law) (pc := 214) (v := 3) d_La_law_214 (by decide) ?_
    refine zo_iadd (i := i_La_law) (pc := 215) d_La_law_215 ?_
    refine zs_iaload (i := i_La_law) (pc := 216) hX hlt d_La_law_216 (by rw [show nI (5 * c + 1) + 3 = nI (5 * c + 1 + 3) from nI_add _ 3]; exact vp_in_nI (by omega) (by omega)) ?_
    refine zo_aload_n (i := i_La_law) (pc := 217) d_La_law_217 rfl rfl ?_
    refine zo_iload (i := i_La_law) (pc := 218) d_La_law_218 rfl ?_
    refine zo_iconst (i := i_La_law) (pc := 220) (v := 4) d_La_law_220 (by decide) ?_
    refine zo_iadd (i := i_La_law) (pc := 221) d_La_law_221 ?_
    refine zs_iaload (i := i_La_law) (pc := 222) hX hlt d_La_law_222 (by rw [show nI (5 * c + 1) + 4 = nI (5 * c + 1 + 4) from nI_add _ 4]; exact vp_in_nI (by omega) (by omega)) ?_
    refine zc_V4 (i := i_La_law) (pc := 223) 10 rfl m_Mo_router (ztb_of k_1000 rfl) (ztb_of k_1001 rfl) (ztb_of k_1002 rfl) d_La_law_223 (Nat.le_of_ble_eq_true rfl) (by show cl + 6 + 0 ≤ 601024; omega) (by show sl + 41 + 0 ≤ 7293000; omega) (Nat.le_of_ble_eq_true rfl) hB (l_router hS hi (by omega) (fun hg2 => absurd hg2 hg) (fun _ ws hS => ?_) (fun hg2 => absurd hg2 hg))
    have hL2 := back _ _ _ hS
    obtain ⟨fB2, hB2⟩ := hL2.mo
    have hlo2 := hL2.ans
    refine zo_aload_n (i := i_La_law) (pc := 226) d_La_law_226 rfl rfl ?_
    refine zc_V0 (i := i_La_law) (pc := 227) 10 rfl m_Mo_thrown (ztb_of k_956 rfl) (ztb_of k_957 rfl) (ztb_of k_958 rfl) d_La_law_227 (Nat.le_of_ble_eq_true rfl) (by show cl + 6 + 0 + 0 ≤ 601024; omega) (by show sl + 41 + 0 + 0 ≤ 7293000; omega) (Nat.le_of_ble_eq_true rfl) hB2 (l_thrown hS ?_)
    refine zo_iload (i := i_La_law) (pc := 230) d_La_law_230 rfl ?_
    refine zo_icmp_eq (i := i_La_law) (pc := 232) (tgt := 237) d_La_law_232 (by decide) (fun h232 => ?_) (fun h232 => False.elim (by first | exact absurd h232 (rfl) | exact absurd (rfl) h232))
    refine zo_goto (i := i_La_law) (pc := 237) (tgt := 1070) d_La_law_237 (by decide) ?_
    exact k _ _ _ _ _ _ _ _ (by show cl + 6 + 0 + 0 ≤ _; omega) (by show sl + 41 + 0 + 0 ≤ _; omega) hL2 (hi.mono (by omega) (by omega) (by omega) (by omega))
  · have hL1 : zLaw g A B lo [] (q) (q) t fl ws := ⟨m, F, hr, hh⟩
    obtain ⟨fB, hB⟩ := hL1.mo
    have hA := hL1.host
    have hlo := hL1.ans
    obtain ⟨X, hS, back⟩ := hL1.model
    refine zo_istore (i := i_La_law) (pc := 196) d_La_law_196 (Nat.le_of_ble_eq_true rfl) ?_
    refine zo_aload_n (i := i_La_law) (pc := 198) d_La_law_198 rfl rfl ?_
    refine zo_aload_n (i := i_La_law) (pc := 199) d_La_law_199 rfl rfl ?_
    refine zo_iload (i := i_La_law) (pc := 200) d_La_law_200 rfl ?_
    refine zo_iconst (i := i_La_law) (pc := 202) (v := 1) d_La_law_202 (by decide) ?_
    refine zo_iadd (i := i_La_law) (pc := 203) d_La_law_203 ?_
    refine zs_iaload (i := i_La_law) (pc := 204) hX hlt d_La_law_204 (by rw [show nI (5 * c + 1) + 1 = nI (5 * c + 1 + 1) from nI_add _ 1]; exact vp_in_nI (by omega) (by omega)) ?_
    refine zo_aload_n (i := i_La_law) (pc := 205) d_La_law_205 rfl rfl ?_
    refine zo_iload (i := i_La_law) (pc := 206) d_La_law_206 rfl ?_
    refine zo_iconst (i := i_La_law) (pc := 208) (v := 2) d_La_law_208 (by decide) ?_
    refine zo_iadd (i := i_La_law) (pc := 209) d_La_law_209 ?_
    refine zs_iaload (i := i_La_law) (pc := 210) hX hlt d_La_law_210 (by rw [show nI (5 * c + 1) + 2 = nI (5 * c + 1 + 2) from nI_add _ 2]; exact vp_in_nI (by omega) (by omega)) ?_
    refine zo_aload_n (i := i_La_law) (pc := 211) d_La_law_211 rfl rfl ?_
    refine zo_iload (i := i_La_law) (pc := 212) d_La_law_212 rfl ?_
    refine zo_iconst (i := i_La_law) (pc := 214) (v := 3) d_La_law_214 (by decide) ?_
    refine zo_iadd (i := i_La_law) (pc := 215) d_La_law_215 ?_
    refine zs_iaload (i := i_La_law) (pc := 216) hX hlt d_La_law_216 (by rw [show nI (5 * c + 1) + 3 = nI (5 * c + 1 + 3) from nI_add _ 3]; exact vp_in_nI (by omega) (by omega)) ?_
    refine zo_aload_n (i := i_La_law) (pc := 217) d_La_law_217 rfl rfl ?_
    refine zo_iload (i := i_La_law) (pc := 218) d_La_law_218 rfl ?_
    refine zo_iconst (i := i_La_law) (pc := 220) (v := 4) d_La_law_220 (by decide) ?_
    refine zo_iadd (i := i_La_law) (pc := 221) d_La_law_221 ?_
    refine zs_iaload (i := i_La_law) (pc := 222) hX hlt d_La_law_222 (by rw [show nI (5 * c + 1) + 4 = nI (5 * c + 1 + 4) from nI_add _ 4]; exact vp_in_nI (by omega) (by omega)) ?_
    refine zc_V4 (i := i_La_law) (pc := 223) 10 rfl m_Mo_router (ztb_of k_1000 rfl) (ztb_of k_1001 rfl) (ztb_of k_1002 rfl) d_La_law_223 (Nat.le_of_ble_eq_true rfl) (by show cl + 6 + 0 ≤ 601024; omega) (by show sl + 41 + 0 ≤ 7293000; omega) (Nat.le_of_ble_eq_true rfl) hB (l_router hS hi (by omega) (fun _ hd2 => absurd (hd.symm.trans hd2) (by decide)) (fun hn2 => absurd hg hn2) (fun _ _ ws hS => ?_))
    have hL2 := back _ _ _ hS
    obtain ⟨fB2, hB2⟩ := hL2.mo
    have hlo2 := hL2.ans
    refine zo_aload_n (i := i_La_law) (pc := 226) d_La_law_226 rfl rfl ?_
    refine zc_V0 (i := i_La_law) (pc := 227) 10 rfl m_Mo_thrown (ztb_of k_956 rfl) (ztb_of k_957 rfl) (ztb_of k_958 rfl) d_La_law_227 (Nat.le_of_ble_eq_true rfl) (by show cl + 6 + 0 + 0 ≤ 601024; omega) (by show sl + 41 + 0 + 0 ≤ 7293000; omega) (Nat.le_of_ble_eq_true rfl) hB2 (l_thrown hS ?_)
    refine zo_iload (i := i_La_law) (pc := 230) d_La_law_230 rfl ?_
    refine zo_icmp_eq (i := i_La_law) (pc := 232) (tgt := 237) d_La_law_232 (by decide) (fun h232 => ?_) (fun h232 => False.elim (by first | exact absurd h232 (rfl) | exact absurd (rfl) h232))
    refine zo_goto (i := i_La_law) (pc := 237) (tgt := 1070) d_La_law_237 (by decide) ?_
    exact k _ _ _ _ _ _ _ _ (by show cl + 6 + 0 + 0 ≤ _; omega) (by show sl + 41 + 0 + 0 ≤ _; omega) hL2 (hi.mono (by omega) (by omega) (by omega) (by omega))
theorem law_prefix {x0 : zX} {g : zG} {A B : Nat → Nat} {lo sc n c : Nat} {fs : Nat → Int32} {q : hT} {t : Int32} {fl : Nat → Int64} {ws : va_W} {T U cl sl : Nat} {o5 o6 : Option Value} (hnt : g.1.stackTraces = false) (hX : va_X sc n fs x0.2.2.1 x0.2.2.1.heap) (hlt : sc < g.2.2.2) (hL : zLaw g A B lo [] (q) (q) t fl ws) (hi : hI q T U) (hTT : T + 100 < 1000000) (hU : U + 1100 < 2000000000) (hcl : cl + 6 ≤ 601024) (hsl : sl + 41 ≤ 7293000) (hc : 5 * c + 6 ≤ n) (hn : n < 1000000) (k : ∀ (q2 : hT) (t2 : Int32) (fl2 : Nat → Int64) (w : va_W) (p5 p6 : Option Value) (cl2 sl2 : Nat), cl2 ≤ cl + 6 → sl2 ≤ sl + 41 → zLaw g A B lo [] (q2) (q2) t2 fl2 w → hI q2 (T + 100) (U + 1100) → zW x0 g i_La_law 1070 [some (.ref sc), some (.ref (A 0)), some (.ref (B 0)), some (.ref lo), some (.int (nI (5 * c + 1))), p5, p6] [] w cl2 sl2) : zW x0 g i_La_law 240 [some (.ref sc), some (.ref (A 0)), some (.ref (B 0)), some (.ref lo), some (.int (nI (5 * c + 1))), o5, o6] [] ws cl sl := by
  obtain ⟨fB, hB⟩ := hL.mo
  have hA := hL.host
  have hlo := hL.ans
  refine zo_aload_n (i := i_La_law) (pc := 240) d_La_law_240 rfl rfl ?_
  refine zo_aload_n (i := i_La_law) (pc := 241) d_La_law_241 rfl rfl ?_
  refine zo_iload (i := i_La_law) (pc := 242) d_La_law_242 rfl ?_
  refine zo_iconst (i := i_La_law) (pc := 244) (v := 1) d_La_law_244 (by decide) ?_
  refine zo_iadd (i := i_La_law) (pc := 245) d_La_law_245 ?_
  refine zs_iaload (i := i_La_law) (pc := 246) hX hlt d_La_law_246 (by rw [show nI (5 * c + 1) + 1 = nI (5 * c + 1 + 1) from nI_add _ 1]; exact vp_in_nI (by omega) (by omega)) ?_
  refine zo_aload_n (i := i_La_law) (pc := 247) d_La_law_247 rfl rfl ?_
  refine zo_iload (i := i_La_law) (pc := 248) d_La_law_248 rfl ?_
  refine zo_iconst (i := i_La_law) (pc := 250) (v := 2) d_La_law_250 (by decide) ?_
  refine zo_iadd (i := i_La_law) (pc := 251) d_La_law_251 ?_
  refine zs_iaload (i := i_La_law) (pc := 252) hX hlt d_La_law_252 (by rw [show nI (5 * c + 1) + 2 = nI (5 * c + 1 + 2) from nI_add _ 2]; exact vp_in_nI (by omega) (by omega)) ?_
  refine zo_aload_n (i := i_La_law) (pc := 253) d_La_law_253 rfl rfl ?_
  refine zo_iload (i := i_La_law) (pc := 254) d_La_law_254 rfl ?_
  refine zo_iconst (i := i_La_law) (pc := 256) (v := 3) d_La_law_256 (by decide) ?_
  refine zo_iadd (i := i_La_law) (pc := 257) d_La_law_257 ?_
  refine zs_iaload (i := i_La_law) (pc := 258) hX hlt d_La_law_258 (by rw [show nI (5 * c + 1) + 3 = nI (5 * c + 1 + 3) from nI_add _ 3]; exact vp_in_nI (by omega) (by omega)) ?_
  refine zo_aload_n (i := i_La_law) (pc := 259) d_La_law_259 rfl rfl ?_
  refine zo_iload (i := i_La_law) (pc := 260) d_La_law_260 rfl ?_
  refine zo_iconst (i := i_La_law) (pc := 262) (v := 4) d_La_law_262 (by decide) ?_
  refine zo_iadd (i := i_La_law) (pc := 263) d_La_law_263 ?_
  refine zs_iaload (i := i_La_law) (pc := 264) hX hlt d_La_law_264 (by rw [show nI (5 * c + 1) + 4 = nI (5 * c + 1 + 4) from nI_add _ 4]; exact vp_in_nI (by omega) (by omega)) ?_
  obtain ⟨m, F, hr, hh⟩ := id hL
  refine zw_callS (i := i_La_law) (pc := 265) (av := [.ref (A 0), .int (fs (nI (5 * c + 1) + 1).toNatClampNeg), .int (fs (nI (5 * c + 1) + 2).toNatClampNeg), .int (fs (nI (5 * c + 1) + 3).toNatClampNeg), .int (fs (nI (5 * c + 1) + 4).toNatClampNeg)]) m_La_prefix (ztb_of k_622 rfl) (ztb_of k_623 rfl) d_La_law_265 rfl (Nat.le_of_ble_eq_true rfl) (by show cl + 6 ≤ 601024; omega) (by show sl + 40 ≤ 7293000; omega) (Nat.le_of_ble_eq_true rfl) rfl (c_La_prefix hnt hh (fun hg hd ws hw => ?_) (fun hg => ?_) (fun hg hd => ?_))
  · have hL1 : zLaw g A B lo [] (prefixT q (fs (nI (5 * c + 1) + 1).toNatClampNeg) (fs (nI (5 * c + 1) + 2).toNatClampNeg) (fs (nI (5 * c + 1) + 3).toNatClampNeg) (fs (nI (5 * c + 1) + 4).toNatClampNeg)) (q) t fl ws := ⟨m, F, hr, hw⟩
    obtain ⟨fB, hB⟩ := hL1.mo
    have hA := hL1.host
    have hlo := hL1.ans
    obtain ⟨X, hS, back⟩ := hL1.model
    refine zo_istore (i := i_La_law) (pc := 268) d_La_law_268 (Nat.le_of_ble_eq_true rfl) ?_
    refine zo_aload_n (i := i_La_law) (pc := 270) d_La_law_270 rfl rfl ?_
    refine zo_aload_n (i := i_La_law) (pc := 271) d_La_law_271 rfl rfl ?_
    refine zo_iload (i := i_La_law) (pc := 272) d_La_law_272 rfl ?_
    refine zo_iconst (i := i_La_law) (pc := 274) (v := 1) d_La_law_274 (by decide) ?_
    refine zo_iadd (i := i_La_law) (pc := 275) d_La_law_275 ?_
    refine zs_iaload (i := i_La_law) (pc := 276) hX hlt d_La_law_276 (by rw [show nI (5 * c + 1) + 1 = nI (5 * c + 1 + 1) from nI_add _ 1]; exact vp_in_nI (by omega) (by omega)) ?_
    refine zo_aload_n (i := i_La_law) (pc := 277) d_La_law_277 rfl rfl ?_
    refine zo_iload (i := i_La_law) (pc := 278) d_La_law_278 rfl ?_
    refine zo_iconst (i := i_La_law) (pc := 280) (v := 2) d_La_law_280 (by decide) ?_
    refine zo_iadd (i := i_La_law) (pc := 281) d_La_law_281 ?_
    refine zs_iaload (i := i_La_law) (pc := 282) hX hlt d_La_law_282 (by rw [show nI (5 * c + 1) + 2 = nI (5 * c + 1 + 2) from nI_add _ 2]; exact vp_in_nI (by omega) (by omega)) ?_
    refine zo_aload_n (i := i_La_law) (pc := 283) d_La_law_283 rfl rfl ?_
    refine zo_iload (i := i_La_law) (pc := 284) d_La_law_284 rfl ?_
    refine zo_iconst (i := i_La_law) (pc := 286) (v := 3) d_La_law_286 (by decide) ?_
    refine zo_iadd (i := i_La_law) (pc := 287) d_La_law_287 ?_
    refine zs_iaload (i := i_La_law) (pc := 288) hX hlt d_La_law_288 (by rw [show nI (5 * c + 1) + 3 = nI (5 * c + 1 + 3) from nI_add _ 3]; exact vp_in_nI (by omega) (by omega)) ?_
    refine zo_aload_n (i := i_La_law) (pc := 289) d_La_law_289 rfl rfl ?_
    refine zo_iload (i := i_La_law) (pc := 290) d_La_law_290 rfl ?_
    refine zo_iconst (i := i_La_law) (pc := 292) (v := 4) d_La_law_292 (by decide) ?_
    refine zo_iadd (i := i_La_law) (pc := 293) d_La_law_293 ?_
    refine zs_iaload (i := i_La_law) (pc := 294) hX hlt d_La_law_294 (by rw [show nI (5 * c + 1) + 4 = nI (5 * c + 1 + 4) from nI_add _ 4]; exact vp_in_nI (by omega) (by omega)) ?_
    refine zc_V4 (i := i_La_law) (pc := 295) 10 rfl m_Mo_prefix (ztb_of k_1040 rfl) (ztb_of k_1041 rfl) (ztb_of k_1042 rfl) d_La_law_295 (Nat.le_of_ble_eq_true rfl) (by show cl + 6 + 0 ≤ 601024; omega) (by show sl + 40 + 0 ≤ 7293000; omega) (Nat.le_of_ble_eq_true rfl) hB (l_prefix hS hi (fun _ _ ws hS => ?_) (fun hn2 => absurd hg hn2) (fun _ hd2 => absurd (hd.symm.trans hd2) (by decide)))
    have hL2 := back _ _ _ hS
    obtain ⟨fB2, hB2⟩ := hL2.mo
    have hlo2 := hL2.ans
    refine zo_aload_n (i := i_La_law) (pc := 298) d_La_law_298 rfl rfl ?_
    refine zc_V0 (i := i_La_law) (pc := 299) 10 rfl m_Mo_thrown (ztb_of k_956 rfl) (ztb_of k_957 rfl) (ztb_of k_958 rfl) d_La_law_299 (Nat.le_of_ble_eq_true rfl) (by show cl + 6 + 0 + 0 ≤ 601024; omega) (by show sl + 40 + 0 + 0 ≤ 7293000; omega) (Nat.le_of_ble_eq_true rfl) hB2 (l_thrown hS ?_)
    refine zo_iload (i := i_La_law) (pc := 302) d_La_law_302 rfl ?_
    refine zo_icmp_eq (i := i_La_law) (pc := 304) (tgt := 309) d_La_law_304 (by decide) (fun h304 => ?_) (fun h304 => False.elim (by first | exact absurd h304 (rfl) | exact absurd (rfl) h304))
    refine zo_goto (i := i_La_law) (pc := 309) (tgt := 1070) d_La_law_309 (by decide) ?_
    exact k _ _ _ _ _ _ _ _ (by show cl + 6 + 0 + 0 ≤ _; omega) (by show sl + 40 + 0 + 0 ≤ _; omega) hL2 ((hI_prefix (p := (fs (nI (5 * c + 1) + 1).toNatClampNeg)) (f := (fs (nI (5 * c + 1) + 2).toNatClampNeg)) (r := (fs (nI (5 * c + 1) + 4).toNatClampNeg)) hi (by omega) hg.2.2.1).mono (by omega) (by omega) (by omega) (by omega))
  · have hL1 : zLaw g A B lo [] (q) (q) t fl ws := ⟨m, F, hr, hh⟩
    obtain ⟨fB, hB⟩ := hL1.mo
    have hA := hL1.host
    have hlo := hL1.ans
    obtain ⟨X, hS, back⟩ := hL1.model
    refine zo_istore (i := i_La_law) (pc := 268) d_La_law_268 (Nat.le_of_ble_eq_true rfl) ?_
    refine zo_aload_n (i := i_La_law) (pc := 270) d_La_law_270 rfl rfl ?_
    refine zo_aload_n (i := i_La_law) (pc := 271) d_La_law_271 rfl rfl ?_
    refine zo_iload (i := i_La_law) (pc := 272) d_La_law_272 rfl ?_
    refine zo_iconst (i := i_La_law) (pc := 274) (v := 1) d_La_law_274 (by decide) ?_
    refine zo_iadd (i := i_La_law) (pc := 275) d_La_law_275 ?_
    refine zs_iaload (i := i_La_law) (pc := 276) hX hlt d_La_law_276 (by rw [show nI (5 * c + 1) + 1 = nI (5 * c + 1 + 1) from nI_add _ 1]; exact vp_in_nI (by omega) (by omega)) ?_
    refine zo_aload_n (i := i_La_law) (pc := 277) d_La_law_277 rfl rfl ?_
    refine zo_iload (i := i_La_law) (pc := 278) d_La_law_278 rfl ?_
    refine zo_iconst (i := i_La_law) (pc := 280) (v := 2) d_La_law_280 (by decide) ?_
    refine zo_iadd (i := i_La_law) (pc := 281) d_La_law_281 ?_
    refine zs_iaload (i := i_La_law) (pc := 282) hX hlt d_La_law_282 (by rw [show nI (5 * c + 1) + 2 = nI (5 * c + 1 + 2) from nI_add _ 2]; exact vp_in_nI (by omega) (by omega)) ?_
    refine zo_aload_n (i := i_La_law) (pc := 283) d_La_law_283 rfl rfl ?_
    refine zo_iload (i := i_La_law) (pc := 284) d_La_law_284 rfl ?_
    refine zo_iconst (i := i_La_law) (pc := 286) (v := 3) d_La_law_286 (by decide) ?_
    refine zo_iadd (i := i_La_law) (pc := 287) d_La_law_287 ?_
    refine zs_iaload (i := i_La_law) (pc := 288) hX hlt d_La_law_288 (by rw [show nI (5 * c + 1) + 3 = nI (5 * c + 1 + 3) from nI_add _ 3]; exact vp_in_nI (by omega) (by omega)) ?_
    refine zo_aload_n (i := i_La_law) (pc := 289) d_La_law_289 rfl rfl ?_
    refine zo_iload (i := i_La_law) (pc := 290) d_La_law_290 rfl ?_
    refine zo_iconst (i := i_La_law) (pc := 292) (v := 4) d_La_law_292 (by decide) ?_
    refine zo_iadd (i := i_La_law) (pc := 293) d_La_law_293 ?_
    refine zs_iaload (i := i_La_law) (pc := 294) hX hlt d_La_law_294 (by rw [show nI (5 * c + 1) + 4 = nI (5 * c + 1 + 4) from nI_add _ 4]; exact vp_in_nI (by omega) (by omega)) ?_
    refine zc_V4 (i := i_La_law) (pc := 295) 10 rfl m_Mo_prefix (ztb_of k_1040 rfl) (ztb_of k_1041 rfl) (ztb_of k_1042 rfl) d_La_law_295 (Nat.le_of_ble_eq_true rfl) (by show cl + 6 + 0 ≤ 601024; omega) (by show sl + 40 + 0 ≤ 7293000; omega) (Nat.le_of_ble_eq_true rfl) hB (l_prefix hS hi (fun hg2 => absurd hg2 hg) (fun _ ws hS => ?_) (fun hg2 => absurd hg2 hg))
    have hL2 := back _ _ _ hS
    obtain ⟨fB2, hB2⟩ := hL2.mo
    have hlo2 := hL2.ans
    refine zo_aload_n (i := i_La_law) (pc := 298) d_La_law_298 rfl rfl ?_
    refine zc_V0 (i := i_La_law) (pc := 299) 10 rfl m_Mo_thrown (ztb_of k_956 rfl) (ztb_of k_957 rfl) (ztb_of k_958 rfl) d_La_law_299 (Nat.le_of_ble_eq_true rfl) (by show cl + 6 + 0 + 0 ≤ 601024; omega) (by show sl + 40 + 0 + 0 ≤ 7293000; omega) (Nat.le_of_ble_eq_true rfl) hB2 (l_thrown hS ?_)
    refine zo_iload (i := i_La_law) (pc := 302) d_La_law_302 rfl ?_
    refine zo_icmp_eq (i := i_La_law) (pc := 304) (tgt := 309) d_La_law_304 (by decide) (fun h304 => ?_) (fun h304 => False.elim (by first | exact absurd h304 (rfl) | exact absurd (rfl) h304))
    refine zo_goto (i := i_La_law) (pc := 309) (tgt := 1070) d_La_law_309 (by decide) ?_
    exact k _ _ _ _ _ _ _ _ (by show cl + 6 + 0 + 0 ≤ _; omega) (by show sl + 40 + 0 + 0 ≤ _; omega) hL2 (hi.mono (by omega) (by omega) (by omega) (by omega))
  · have hL1 : zLaw g A B lo [] (q) (q) t fl ws := ⟨m, F, hr, hh⟩
    obtain ⟨fB, hB⟩ := hL1.mo
    have hA := hL1.host
    have hlo := hL1.ans
    obtain ⟨X, hS, back⟩ := hL1.model
    refine zo_istore (i := i_La_law) (pc := 268) d_La_law_268 (Nat.le_of_ble_eq_true rfl) ?_
    refine zo_aload_n (i := i_La_law) (pc := 270) d_La_law_270 rfl rfl ?_
    refine zo_aload_n (i := i_La_law) (pc := 271) d_La_law_271 rfl rfl ?_
    refine zo_iload (i := i_La_law) (pc := 272) d_La_law_272 rfl ?_
    refine zo_iconst (i := i_La_law) (pc := 274) (v := 1) d_La_law_274 (by decide) ?_
    refine zo_iadd (i := i_La_law) (pc := 275) d_La_law_275 ?_
    refine zs_iaload (i := i_La_law) (pc := 276) hX hlt d_La_law_276 (by rw [show nI (5 * c + 1) + 1 = nI (5 * c + 1 + 1) from nI_add _ 1]; exact vp_in_nI (by omega) (by omega)) ?_
    refine zo_aload_n (i := i_La_law) (pc := 277) d_La_law_277 rfl rfl ?_
    refine zo_iload (i := i_La_law) (pc := 278) d_La_law_278 rfl ?_
    refine zo_iconst (i := i_La_law) (pc := 280) (v := 2) d_La_law_280 (by decide) ?_
    refine zo_iadd (i := i_La_law) (pc := 281) d_La_law_281 ?_
    refine zs_iaload (i := i_La_law) (pc := 282) hX hlt d_La_law_282 (by rw [show nI (5 * c + 1) + 2 = nI (5 * c + 1 + 2) from nI_add _ 2]; exact vp_in_nI (by omega) (by omega)) ?_
    refine zo_aload_n (i := i_La_law) (pc := 283) d_La_law_283 rfl rfl ?_
    refine zo_iload (i := i_La_law) (pc := 284) d_La_law_284 rfl ?_
    refine zo_iconst (i := i_La_law) (pc := 286) (v := 3) d_La_law_286 (by decide) ?_
    refine zo_iadd (i := i_La_law) (pc := 287) d_La_law_287 ?_
    refine zs_iaload (i := i_La_law) (pc := 288) hX hlt d_La_law_288 (by rw [show nI (5 * c + 1) + 3 = nI (5 * c + 1 + 3) from nI_add _ 3]; exact vp_in_nI (by omega) (by omega)) ?_
    refine zo_aload_n (i := i_La_law) (pc := 289) d_La_law_289 rfl rfl ?_
    refine zo_iload (i := i_La_law) (pc := 290) d_La_law_290 rfl ?_
    refine zo_iconst (i := i_La_law) (pc := 292) (v := 4) d_La_law_292 (by decide) ?_
    refine zo_iadd (i := i_La_law) (pc := 293) d_La_law_293 ?_
    refine zs_iaload (i := i_La_law) (pc := 294) hX hlt d_La_law_294 (by rw [show nI (5 * c + 1) + 4 = nI (5 * c + 1 + 4) from nI_add _ 4]; exact vp_in_nI (by omega) (by omega)) ?_
    refine zc_V4 (i := i_La_law) (pc := 295) 10 rfl m_Mo_prefix (ztb_of k_1040 rfl) (ztb_of k_1041 rfl) (ztb_of k_1042 rfl) d_La_law_295 (Nat.le_of_ble_eq_true rfl) (by show cl + 6 + 0 ≤ 601024; omega) (by show sl + 40 + 0 ≤ 7293000; omega) (Nat.le_of_ble_eq_true rfl) hB (l_prefix hS hi (fun _ hd2 => absurd (hd.symm.trans hd2) (by decide)) (fun hn2 => absurd hg hn2) (fun _ _ ws hS => ?_))
    have hL2 := back _ _ _ hS
    obtain ⟨fB2, hB2⟩ := hL2.mo
    have hlo2 := hL2.ans
    refine zo_aload_n (i := i_La_law) (pc := 298) d_La_law_298 rfl rfl ?_
    refine zc_V0 (i := i_La_law) (pc := 299) 10 rfl m_Mo_thrown (ztb_of k_956 rfl) (ztb_of k_957 rfl) (ztb_of k_958 rfl) d_La_law_299 (Nat.le_of_ble_eq_true rfl) (by show cl + 6 + 0 + 0 ≤ 601024; omega) (by show sl + 40 + 0 + 0 ≤ 7293000; omega) (Nat.le_of_ble_eq_true rfl) hB2 (l_thrown hS ?_)
    refine zo_iload (i := i_La_law) (pc := 302) d_La_law_302 rfl ?_
    refine zo_icmp_eq (i := i_La_law) (pc := 304) (tgt := 309) d_La_law_304 (by decide) (fun h304 => ?_) (fun h304 => False.elim (by first | exact absurd h304 (rfl) | exact absurd (rfl) h304))
    refine zo_goto (i := i_La_law) (pc := 309) (tgt := 1070) d_La_law_309 (by decide) ?_
    exact k _ _ _ _ _ _ _ _ (by show cl + 6 + 0 + 0 ≤ _; omega) (by show sl + 40 + 0 + 0 ≤ _; omega) hL2 (hi.mono (by omega) (by omega) (by omega) (by omega))
theorem law_asked {x0 : zX} {g : zG} {A B : Nat → Nat} {lo sc n c : Nat} {fs : Nat → Int32} {q : hT} {t : Int32} {fl : Nat → Int64} {ws : va_W} {T U cl sl : Nat} {o5 o6 : Option Value} (hnt : g.1.stackTraces = false) (hX : va_X sc n fs x0.2.2.1 x0.2.2.1.heap) (hlt : sc < g.2.2.2) (hL : zLaw g A B lo [] (q) (q) t fl ws) (hi : hI q T U) (hTT : T + 100 < 1000000) (hU : U + 1100 < 2000000000) (hcl : cl + 6 ≤ 601024) (hsl : sl + 41 ≤ 7293000) (hc : 5 * c + 6 ≤ n) (hn : n < 1000000) (k : ∀ (q2 : hT) (t2 : Int32) (fl2 : Nat → Int64) (w : va_W) (p5 p6 : Option Value) (cl2 sl2 : Nat), cl2 ≤ cl + 6 → sl2 ≤ sl + 41 → zLaw g A B lo [] (q2) (q2) t2 fl2 w → hI q2 (T + 100) (U + 1100) → zW x0 g i_La_law 1070 [some (.ref sc), some (.ref (A 0)), some (.ref (B 0)), some (.ref lo), some (.int (nI (5 * c + 1))), p5, p6] [] w cl2 sl2) : zW x0 g i_La_law 312 [some (.ref sc), some (.ref (A 0)), some (.ref (B 0)), some (.ref lo), some (.int (nI (5 * c + 1))), o5, o6] [] ws cl sl := by
  obtain ⟨fB, hB⟩ := hL.mo
  have hA := hL.host
  have hlo := hL.ans
  refine zo_aload_n (i := i_La_law) (pc := 312) d_La_law_312 rfl rfl ?_
  refine zo_aload_n (i := i_La_law) (pc := 313) d_La_law_313 rfl rfl ?_
  refine zo_iload (i := i_La_law) (pc := 314) d_La_law_314 rfl ?_
  refine zo_iconst (i := i_La_law) (pc := 316) (v := 1) d_La_law_316 (by decide) ?_
  refine zo_iadd (i := i_La_law) (pc := 317) d_La_law_317 ?_
  refine zs_iaload (i := i_La_law) (pc := 318) hX hlt d_La_law_318 (by rw [show nI (5 * c + 1) + 1 = nI (5 * c + 1 + 1) from nI_add _ 1]; exact vp_in_nI (by omega) (by omega)) ?_
  refine zo_aload_n (i := i_La_law) (pc := 319) d_La_law_319 rfl rfl ?_
  refine zo_iload (i := i_La_law) (pc := 320) d_La_law_320 rfl ?_
  refine zo_iconst (i := i_La_law) (pc := 322) (v := 2) d_La_law_322 (by decide) ?_
  refine zo_iadd (i := i_La_law) (pc := 323) d_La_law_323 ?_
  refine zs_iaload (i := i_La_law) (pc := 324) hX hlt d_La_law_324 (by rw [show nI (5 * c + 1) + 2 = nI (5 * c + 1 + 2) from nI_add _ 2]; exact vp_in_nI (by omega) (by omega)) ?_
  refine zo_aload_n (i := i_La_law) (pc := 325) d_La_law_325 rfl rfl ?_
  refine zo_iload (i := i_La_law) (pc := 326) d_La_law_326 rfl ?_
  refine zo_iconst (i := i_La_law) (pc := 328) (v := 3) d_La_law_328 (by decide) ?_
  refine zo_iadd (i := i_La_law) (pc := 329) d_La_law_329 ?_
  refine zs_iaload (i := i_La_law) (pc := 330) hX hlt d_La_law_330 (by rw [show nI (5 * c + 1) + 3 = nI (5 * c + 1 + 3) from nI_add _ 3]; exact vp_in_nI (by omega) (by omega)) ?_
  obtain ⟨m, F, hr, hh⟩ := id hL
  refine zw_callS (i := i_La_law) (pc := 331) (av := [.ref (A 0), .int (fs (nI (5 * c + 1) + 1).toNatClampNeg), .int (fs (nI (5 * c + 1) + 2).toNatClampNeg), .int (fs (nI (5 * c + 1) + 3).toNatClampNeg)]) m_La_asked (ztb_of k_645 rfl) (ztb_of k_646 rfl) d_La_law_331 rfl (Nat.le_of_ble_eq_true rfl) (by show cl + 4 ≤ 601024; omega) (by show sl + 28 ≤ 7293000; omega) (Nat.le_of_ble_eq_true rfl) rfl (c_La_asked hnt hh (fun hg hd ws hw => ?_) (fun hg => ?_) (fun hg hd => ?_))
  · have hL1 : zLaw g A B lo [] (askedT q (fs (nI (5 * c + 1) + 1).toNatClampNeg) (fs (nI (5 * c + 1) + 2).toNatClampNeg) (fs (nI (5 * c + 1) + 3).toNatClampNeg)) (q) t fl ws := ⟨m, F, hr, hw⟩
    obtain ⟨fB, hB⟩ := hL1.mo
    have hA := hL1.host
    have hlo := hL1.ans
    obtain ⟨X, hS, back⟩ := hL1.model
    refine zo_istore (i := i_La_law) (pc := 334) d_La_law_334 (Nat.le_of_ble_eq_true rfl) ?_
    refine zo_aload_n (i := i_La_law) (pc := 336) d_La_law_336 rfl rfl ?_
    refine zo_aload_n (i := i_La_law) (pc := 337) d_La_law_337 rfl rfl ?_
    refine zo_iload (i := i_La_law) (pc := 338) d_La_law_338 rfl ?_
    refine zo_iconst (i := i_La_law) (pc := 340) (v := 1) d_La_law_340 (by decide) ?_
    refine zo_iadd (i := i_La_law) (pc := 341) d_La_law_341 ?_
    refine zs_iaload (i := i_La_law) (pc := 342) hX hlt d_La_law_342 (by rw [show nI (5 * c + 1) + 1 = nI (5 * c + 1 + 1) from nI_add _ 1]; exact vp_in_nI (by omega) (by omega)) ?_
    refine zo_aload_n (i := i_La_law) (pc := 343) d_La_law_343 rfl rfl ?_
    refine zo_iload (i := i_La_law) (pc := 344) d_La_law_344 rfl ?_
    refine zo_iconst (i := i_La_law) (pc := 346) (v := 2) d_La_law_346 (by decide) ?_
    refine zo_iadd (i := i_La_law) (pc := 347) d_La_law_347 ?_
    refine zs_iaload (i := i_La_law) (pc := 348) hX hlt d_La_law_348 (by rw [show nI (5 * c + 1) + 2 = nI (5 * c + 1 + 2) from nI_add _ 2]; exact vp_in_nI (by omega) (by omega)) ?_
    refine zo_aload_n (i := i_La_law) (pc := 349) d_La_law_349 rfl rfl ?_
    refine zo_iload (i := i_La_law) (pc := 350) d_La_law_350 rfl ?_
    refine zo_iconst (i := i_La_law) (pc := 352) (v := 3) d_La_law_352 (by decide) ?_
    refine zo_iadd (i := i_La_law) (pc := 353) d_La_law_353 ?_
    refine zs_iaload (i := i_La_law) (pc := 354) hX hlt d_La_law_354 (by rw [show nI (5 * c + 1) + 3 = nI (5 * c + 1 + 3) from nI_add _ 3]; exact vp_in_nI (by omega) (by omega)) ?_
    refine zc_V3 (i := i_La_law) (pc := 355) 10 rfl m_Mo_asked (ztb_of k_1052 rfl) (ztb_of k_1053 rfl) (ztb_of k_1054 rfl) d_La_law_355 (Nat.le_of_ble_eq_true rfl) (by show cl + 4 + 0 ≤ 601024; omega) (by show sl + 28 + 0 ≤ 7293000; omega) (Nat.le_of_ble_eq_true rfl) hB (l_asked hS hi (by omega) (fun _ _ ws hS => ?_) (fun hn2 => absurd hg hn2) (fun _ hd2 => absurd (hd.symm.trans hd2) (by decide)))
    have hL2 := back _ _ _ hS
    obtain ⟨fB2, hB2⟩ := hL2.mo
    have hlo2 := hL2.ans
    refine zo_aload_n (i := i_La_law) (pc := 358) d_La_law_358 rfl rfl ?_
    refine zc_V0 (i := i_La_law) (pc := 359) 10 rfl m_Mo_thrown (ztb_of k_956 rfl) (ztb_of k_957 rfl) (ztb_of k_958 rfl) d_La_law_359 (Nat.le_of_ble_eq_true rfl) (by show cl + 4 + 0 + 0 ≤ 601024; omega) (by show sl + 28 + 0 + 0 ≤ 7293000; omega) (Nat.le_of_ble_eq_true rfl) hB2 (l_thrown hS ?_)
    refine zo_iload (i := i_La_law) (pc := 362) d_La_law_362 rfl ?_
    refine zo_icmp_eq (i := i_La_law) (pc := 364) (tgt := 369) d_La_law_364 (by decide) (fun h364 => ?_) (fun h364 => False.elim (by first | exact absurd h364 (rfl) | exact absurd (rfl) h364))
    refine zo_goto (i := i_La_law) (pc := 369) (tgt := 1070) d_La_law_369 (by decide) ?_
    exact k _ _ _ _ _ _ _ _ (by show cl + 4 + 0 + 0 ≤ _; omega) (by show sl + 28 + 0 + 0 ≤ _; omega) hL2 ((hI_asked (f := (fs (nI (5 * c + 1) + 1).toNatClampNeg)) (t := (fs (nI (5 * c + 1) + 2).toNatClampNeg)) (n := (fs (nI (5 * c + 1) + 3).toNatClampNeg)) hi (by omega)).mono (by omega) (by omega) (by omega) (by omega))
  · have hL1 : zLaw g A B lo [] (q) (q) t fl ws := ⟨m, F, hr, hh⟩
    obtain ⟨fB, hB⟩ := hL1.mo
    have hA := hL1.host
    have hlo := hL1.ans
    obtain ⟨X, hS, back⟩ := hL1.model
    refine zo_istore (i := i_La_law) (pc := 334) d_La_law_334 (Nat.le_of_ble_eq_true rfl) ?_
    refine zo_aload_n (i := i_La_law) (pc := 336) d_La_law_336 rfl rfl ?_
    refine zo_aload_n (i := i_La_law) (pc := 337) d_La_law_337 rfl rfl ?_
    refine zo_iload (i := i_La_law) (pc := 338) d_La_law_338 rfl ?_
    refine zo_iconst (i := i_La_law) (pc := 340) (v := 1) d_La_law_340 (by decide) ?_
    refine zo_iadd (i := i_La_law) (pc := 341) d_La_law_341 ?_
    refine zs_iaload (i := i_La_law) (pc := 342) hX hlt d_La_law_342 (by rw [show nI (5 * c + 1) + 1 = nI (5 * c + 1 + 1) from nI_add _ 1]; exact vp_in_nI (by omega) (by omega)) ?_
    refine zo_aload_n (i := i_La_law) (pc := 343) d_La_law_343 rfl rfl ?_
    refine zo_iload (i := i_La_law) (pc := 344) d_La_law_344 rfl ?_
    refine zo_iconst (i := i_La_law) (pc := 346) (v := 2) d_La_law_346 (by decide) ?_
    refine zo_iadd (i := i_La_law) (pc := 347) d_La_law_347 ?_
    refine zs_iaload (i := i_La_law) (pc := 348) hX hlt d_La_law_348 (by rw [show nI (5 * c + 1) + 2 = nI (5 * c + 1 + 2) from nI_add _ 2]; exact vp_in_nI (by omega) (by omega)) ?_
    refine zo_aload_n (i := i_La_law) (pc := 349) d_La_law_349 rfl rfl ?_
    refine zo_iload (i := i_La_law) (pc := 350) d_La_law_350 rfl ?_
    refine zo_iconst (i := i_La_law) (pc := 352) (v := 3) d_La_law_352 (by decide) ?_
    refine zo_iadd (i := i_La_law) (pc := 353) d_La_law_353 ?_
    refine zs_iaload (i := i_La_law) (pc := 354) hX hlt d_La_law_354 (by rw [show nI (5 * c + 1) + 3 = nI (5 * c + 1 + 3) from nI_add _ 3]; exact vp_in_nI (by omega) (by omega)) ?_
    refine zc_V3 (i := i_La_law) (pc := 355) 10 rfl m_Mo_asked (ztb_of k_1052 rfl) (ztb_of k_1053 rfl) (ztb_of k_1054 rfl) d_La_law_355 (Nat.le_of_ble_eq_true rfl) (by show cl + 4 + 0 ≤ 601024; omega) (by show sl + 28 + 0 ≤ 7293000; omega) (Nat.le_of_ble_eq_true rfl) hB (l_asked hS hi (by omega) (fun hg2 => absurd hg2 hg) (fun _ ws hS => ?_) (fun hg2 => absurd hg2 hg))
    have hL2 := back _ _ _ hS
    obtain ⟨fB2, hB2⟩ := hL2.mo
    have hlo2 := hL2.ans
    refine zo_aload_n (i := i_La_law) (pc := 358) d_La_law_358 rfl rfl ?_
    refine zc_V0 (i := i_La_law) (pc := 359) 10 rfl m_Mo_thrown (ztb_of k_956 rfl) (ztb_of k_957 rfl) (ztb_of k_958 rfl) d_La_law_359 (Nat.le_of_ble_eq_true rfl) (by show cl + 4 + 0 + 0 ≤ 601024; omega) (by show sl + 28 + 0 + 0 ≤ 7293000; omega) (Nat.le_of_ble_eq_true rfl) hB2 (l_thrown hS ?_)
    refine zo_iload (i := i_La_law) (pc := 362) d_La_law_362 rfl ?_
    refine zo_icmp_eq (i := i_La_law) (pc := 364) (tgt := 369) d_La_law_364 (by decide) (fun h364 => ?_) (fun h364 => False.elim (by first | exact absurd h364 (rfl) | exact absurd (rfl) h364))
    refine zo_goto (i := i_La_law) (pc := 369) (tgt := 1070) d_La_law_369 (by decide) ?_
    exact k _ _ _ _ _ _ _ _ (by show cl + 4 + 0 + 0 ≤ _; omega) (by show sl + 28 + 0 + 0 ≤ _; omega) hL2 (hi.mono (by omega) (by omega) (by omega) (by omega))
  · have hL1 : zLaw g A B lo [] (q) (q) t fl ws := ⟨m, F, hr, hh⟩
    obtain ⟨fB, hB⟩ := hL1.mo
    have hA := hL1.host
    have hlo := hL1.ans
    obtain ⟨X, hS, back⟩ := hL1.model
    refine zo_istore (i := i_La_law) (pc := 334) d_La_law_334 (Nat.le_of_ble_eq_true rfl) ?_
    refine zo_aload_n (i := i_La_law) (pc := 336) d_La_law_336 rfl rfl ?_
    refine zo_aload_n (i := i_La_law) (pc := 337) d_La_law_337 rfl rfl ?_
    refine zo_iload (i := i_La_law) (pc := 338) d_La_law_338 rfl ?_
    refine zo_iconst (i := i_La_law) (pc := 340) (v := 1) d_La_law_340 (by decide) ?_
    refine zo_iadd (i := i_La_law) (pc := 341) d_La_law_341 ?_
    refine zs_iaload (i := i_La_law) (pc := 342) hX hlt d_La_law_342 (by rw [show nI (5 * c + 1) + 1 = nI (5 * c + 1 + 1) from nI_add _ 1]; exact vp_in_nI (by omega) (by omega)) ?_
    refine zo_aload_n (i := i_La_law) (pc := 343) d_La_law_343 rfl rfl ?_
    refine zo_iload (i := i_La_law) (pc := 344) d_La_law_344 rfl ?_
    refine zo_iconst (i := i_La_law) (pc := 346) (v := 2) d_La_law_346 (by decide) ?_
    refine zo_iadd (i := i_La_law) (pc := 347) d_La_law_347 ?_
    refine zs_iaload (i := i_La_law) (pc := 348) hX hlt d_La_law_348 (by rw [show nI (5 * c + 1) + 2 = nI (5 * c + 1 + 2) from nI_add _ 2]; exact vp_in_nI (by omega) (by omega)) ?_
    refine zo_aload_n (i := i_La_law) (pc := 349) d_La_law_349 rfl rfl ?_
    refine zo_iload (i := i_La_law) (pc := 350) d_La_law_350 rfl ?_
    refine zo_iconst (i := i_La_law) (pc := 352) (v := 3) d_La_law_352 (by decide) ?_
    refine zo_iadd (i := i_La_law) (pc := 353) d_La_law_353 ?_
    refine zs_iaload (i := i_La_law) (pc := 354) hX hlt d_La_law_354 (by rw [show nI (5 * c + 1) + 3 = nI (5 * c + 1 + 3) from nI_add _ 3]; exact vp_in_nI (by omega) (by omega)) ?_
    refine zc_V3 (i := i_La_law) (pc := 355) 10 rfl m_Mo_asked (ztb_of k_1052 rfl) (ztb_of k_1053 rfl) (ztb_of k_1054 rfl) d_La_law_355 (Nat.le_of_ble_eq_true rfl) (by show cl + 4 + 0 ≤ 601024; omega) (by show sl + 28 + 0 ≤ 7293000; omega) (Nat.le_of_ble_eq_true rfl) hB (l_asked hS hi (by omega) (fun _ hd2 => absurd (hd.symm.trans hd2) (by decide)) (fun hn2 => absurd hg hn2) (fun _ _ ws hS => ?_))
    have hL2 := back _ _ _ hS
    obtain ⟨fB2, hB2⟩ := hL2.mo
    have hlo2 := hL2.ans
    refine zo_aload_n (i := i_La_law) (pc := 358) d_La_law_358 rfl rfl ?_
    refine zc_V0 (i := i_La_law) (pc := 359) 10 rfl m_Mo_thrown (ztb_of k_956 rfl) (ztb_of k_957 rfl) (ztb_of k_958 rfl) d_La_law_359 (Nat.le_of_ble_eq_true rfl) (by show cl + 4 + 0 + 0 ≤ 601024; omega) (by show sl + 28 + 0 + 0 ≤ 7293000; omega) (Nat.le_of_ble_eq_true rfl) hB2 (l_thrown hS ?_)
    refine zo_iload (i := i_La_law) (pc := 362) d_La_law_362 rfl ?_
    refine zo_icmp_eq (i := i_La_law) (pc := 364) (tgt := 369) d_La_law_364 (by decide) (fun h364 => ?_) (fun h364 => False.elim (by first | exact absurd h364 (rfl) | exact absurd (rfl) h364))
    refine zo_goto (i := i_La_law) (pc := 369) (tgt := 1070) d_La_law_369 (by decide) ?_
    exact k _ _ _ _ _ _ _ _ (by show cl + 4 + 0 + 0 ≤ _; omega) (by show sl + 28 + 0 + 0 ≤ _; omega) hL2 (hi.mono (by omega) (by omega) (by omega) (by omega))
theorem law_told {x0 : zX} {g : zG} {A B : Nat → Nat} {lo sc n c : Nat} {fs : Nat → Int32} {q : hT} {t : Int32} {fl : Nat → Int64} {ws : va_W} {T U cl sl : Nat} {o5 o6 : Option Value} (hnt : g.1.stackTraces = false) (hX : va_X sc n fs x0.2.2.1 x0.2.2.1.heap) (hlt : sc < g.2.2.2) (hL : zLaw g A B lo [] (q) (q) t fl ws) (hi : hI q T U) (hTT : T + 100 < 1000000) (hU : U + 1100 < 2000000000) (hcl : cl + 6 ≤ 601024) (hsl : sl + 41 ≤ 7293000) (hc : 5 * c + 6 ≤ n) (hn : n < 1000000) (k : ∀ (q2 : hT) (t2 : Int32) (fl2 : Nat → Int64) (w : va_W) (p5 p6 : Option Value) (cl2 sl2 : Nat), cl2 ≤ cl + 6 → sl2 ≤ sl + 41 → zLaw g A B lo [] (q2) (q2) t2 fl2 w → hI q2 (T + 100) (U + 1100) → zW x0 g i_La_law 1070 [some (.ref sc), some (.ref (A 0)), some (.ref (B 0)), some (.ref lo), some (.int (nI (5 * c + 1))), p5, p6] [] w cl2 sl2) : zW x0 g i_La_law 372 [some (.ref sc), some (.ref (A 0)), some (.ref (B 0)), some (.ref lo), some (.int (nI (5 * c + 1))), o5, o6] [] ws cl sl := by
  obtain ⟨fB, hB⟩ := hL.mo
  have hA := hL.host
  have hlo := hL.ans
  refine zo_aload_n (i := i_La_law) (pc := 372) d_La_law_372 rfl rfl ?_
  refine zo_aload_n (i := i_La_law) (pc := 373) d_La_law_373 rfl rfl ?_
  refine zo_iload (i := i_La_law) (pc := 374) d_La_law_374 rfl ?_
  refine zo_iconst (i := i_La_law) (pc := 376) (v := 1) d_La_law_376 (by decide) ?_
  refine zo_iadd (i := i_La_law) (pc := 377) d_La_law_377 ?_
  refine zs_iaload (i := i_La_law) (pc := 378) hX hlt d_La_law_378 (by rw [show nI (5 * c + 1) + 1 = nI (5 * c + 1 + 1) from nI_add _ 1]; exact vp_in_nI (by omega) (by omega)) ?_
  refine zo_aload_n (i := i_La_law) (pc := 379) d_La_law_379 rfl rfl ?_
  refine zo_iload (i := i_La_law) (pc := 380) d_La_law_380 rfl ?_
  refine zo_iconst (i := i_La_law) (pc := 382) (v := 2) d_La_law_382 (by decide) ?_
  refine zo_iadd (i := i_La_law) (pc := 383) d_La_law_383 ?_
  refine zs_iaload (i := i_La_law) (pc := 384) hX hlt d_La_law_384 (by rw [show nI (5 * c + 1) + 2 = nI (5 * c + 1 + 2) from nI_add _ 2]; exact vp_in_nI (by omega) (by omega)) ?_
  refine zo_aload_n (i := i_La_law) (pc := 385) d_La_law_385 rfl rfl ?_
  refine zo_iload (i := i_La_law) (pc := 386) d_La_law_386 rfl ?_
  refine zo_iconst (i := i_La_law) (pc := 388) (v := 3) d_La_law_388 (by decide) ?_
  refine zo_iadd (i := i_La_law) (pc := 389) d_La_law_389 ?_
  refine zs_iaload (i := i_La_law) (pc := 390) hX hlt d_La_law_390 (by rw [show nI (5 * c + 1) + 3 = nI (5 * c + 1 + 3) from nI_add _ 3]; exact vp_in_nI (by omega) (by omega)) ?_
  obtain ⟨m, F, hr, hh⟩ := id hL
  refine zw_callS (i := i_La_law) (pc := 391) (av := [.ref (A 0), .int (fs (nI (5 * c + 1) + 1).toNatClampNeg), .int (fs (nI (5 * c + 1) + 2).toNatClampNeg), .int (fs (nI (5 * c + 1) + 3).toNatClampNeg)]) m_La_told (ztb_of k_669 rfl) (ztb_of k_670 rfl) d_La_law_391 rfl (Nat.le_of_ble_eq_true rfl) (by show cl + 2 ≤ 601024; omega) (by show sl + 12 ≤ 7293000; omega) (Nat.le_of_ble_eq_true rfl) rfl (c_La_told hnt hh (fun hg hd ws hw => ?_) (fun hg => ?_) (fun hg hd => ?_))
  · have hL1 : zLaw g A B lo [] (toldT q (fs (nI (5 * c + 1) + 1).toNatClampNeg) (fs (nI (5 * c + 1) + 2).toNatClampNeg) (fs (nI (5 * c + 1) + 3).toNatClampNeg)) (q) t fl ws := ⟨m, F, hr, hw⟩
    obtain ⟨fB, hB⟩ := hL1.mo
    have hA := hL1.host
    have hlo := hL1.ans
    obtain ⟨X, hS, back⟩ := hL1.model
    refine zo_istore (i := i_La_law) (pc := 394) d_La_law_394 (Nat.le_of_ble_eq_true rfl) ?_
    refine zo_aload_n (i := i_La_law) (pc := 396) d_La_law_396 rfl rfl ?_
    refine zo_aload_n (i := i_La_law) (pc := 397) d_La_law_397 rfl rfl ?_
    refine zo_iload (i := i_La_law) (pc := 398) d_La_law_398 rfl ?_
    refine zo_iconst (i := i_La_law) (pc := 400) (v := 1) d_La_law_400 (by decide) ?_
    refine zo_iadd (i := i_La_law) (pc := 401) d_La_law_401 ?_
    refine zs_iaload (i := i_La_law) (pc := 402) hX hlt d_La_law_402 (by rw [show nI (5 * c + 1) + 1 = nI (5 * c + 1 + 1) from nI_add _ 1]; exact vp_in_nI (by omega) (by omega)) ?_
    refine zo_aload_n (i := i_La_law) (pc := 403) d_La_law_403 rfl rfl ?_
    refine zo_iload (i := i_La_law) (pc := 404) d_La_law_404 rfl ?_
    refine zo_iconst (i := i_La_law) (pc := 406) (v := 2) d_La_law_406 (by decide) ?_
    refine zo_iadd (i := i_La_law) (pc := 407) d_La_law_407 ?_
    refine zs_iaload (i := i_La_law) (pc := 408) hX hlt d_La_law_408 (by rw [show nI (5 * c + 1) + 2 = nI (5 * c + 1 + 2) from nI_add _ 2]; exact vp_in_nI (by omega) (by omega)) ?_
    refine zo_aload_n (i := i_La_law) (pc := 409) d_La_law_409 rfl rfl ?_
    refine zo_iload (i := i_La_law) (pc := 410) d_La_law_410 rfl ?_
    refine zo_iconst (i := i_La_law) (pc := 412) (v := 3) d_La_law_412 (by decide) ?_
    refine zo_iadd (i := i_La_law) (pc := 413) d_La_law_413 ?_
    refine zs_iaload (i := i_La_law) (pc := 414) hX hlt d_La_law_414 (by rw [show nI (5 * c + 1) + 3 = nI (5 * c + 1 + 3) from nI_add _ 3]; exact vp_in_nI (by omega) (by omega)) ?_
    refine zc_V3 (i := i_La_law) (pc := 415) 10 rfl m_Mo_told (ztb_of k_1073 rfl) (ztb_of k_1074 rfl) (ztb_of k_1075 rfl) d_La_law_415 (Nat.le_of_ble_eq_true rfl) (by show cl + 2 + 0 ≤ 601024; omega) (by show sl + 12 + 0 ≤ 7293000; omega) (Nat.le_of_ble_eq_true rfl) hB (l_told hS hi (by omega) (fun _ _ ws hS => ?_) (fun hn2 => absurd hg hn2) (fun _ hd2 => absurd (hd.symm.trans hd2) (by decide)))
    have hL2 := back _ _ _ hS
    obtain ⟨fB2, hB2⟩ := hL2.mo
    have hlo2 := hL2.ans
    refine zo_aload_n (i := i_La_law) (pc := 418) d_La_law_418 rfl rfl ?_
    refine zc_V0 (i := i_La_law) (pc := 419) 10 rfl m_Mo_thrown (ztb_of k_956 rfl) (ztb_of k_957 rfl) (ztb_of k_958 rfl) d_La_law_419 (Nat.le_of_ble_eq_true rfl) (by show cl + 2 + 0 + 0 ≤ 601024; omega) (by show sl + 12 + 0 + 0 ≤ 7293000; omega) (Nat.le_of_ble_eq_true rfl) hB2 (l_thrown hS ?_)
    refine zo_iload (i := i_La_law) (pc := 422) d_La_law_422 rfl ?_
    refine zo_icmp_eq (i := i_La_law) (pc := 424) (tgt := 429) d_La_law_424 (by decide) (fun h424 => ?_) (fun h424 => False.elim (by first | exact absurd h424 (rfl) | exact absurd (rfl) h424))
    refine zo_goto (i := i_La_law) (pc := 429) (tgt := 1070) d_La_law_429 (by decide) ?_
    exact k _ _ _ _ _ _ _ _ (by show cl + 2 + 0 + 0 ≤ _; omega) (by show sl + 12 + 0 + 0 ≤ _; omega) hL2 ((hI_told (t := (fs (nI (5 * c + 1) + 1).toNatClampNeg)) (n := (fs (nI (5 * c + 1) + 2).toNatClampNeg)) (fl := (fs (nI (5 * c + 1) + 3).toNatClampNeg)) hi (by omega)).mono (by omega) (by omega) (by omega) (by omega))
  · have hL1 : zLaw g A B lo [] (q) (q) t fl ws := ⟨m, F, hr, hh⟩
    obtain ⟨fB, hB⟩ := hL1.mo
    have hA := hL1.host
    have hlo := hL1.ans
    obtain ⟨X, hS, back⟩ := hL1.model
    refine zo_istore (i := i_La_law) (pc := 394) d_La_law_394 (Nat.le_of_ble_eq_true rfl) ?_
    refine zo_aload_n (i := i_La_law) (pc := 396) d_La_law_396 rfl rfl ?_
    refine zo_aload_n (i := i_La_law) (pc := 397) d_La_law_397 rfl rfl ?_
    refine zo_iload (i := i_La_law) (pc := 398) d_La_law_398 rfl ?_
    refine zo_iconst (i := i_La_law) (pc := 400) (v := 1) d_La_law_400 (by decide) ?_
    refine zo_iadd (i := i_La_law) (pc := 401) d_La_law_401 ?_
    refine zs_iaload (i := i_La_law) (pc := 402) hX hlt d_La_law_402 (by rw [show nI (5 * c + 1) + 1 = nI (5 * c + 1 + 1) from nI_add _ 1]; exact vp_in_nI (by omega) (by omega)) ?_
    refine zo_aload_n (i := i_La_law) (pc := 403) d_La_law_403 rfl rfl ?_
    refine zo_iload (i := i_La_law) (pc := 404) d_La_law_404 rfl ?_
    refine zo_iconst (i := i_La_law) (pc := 406) (v := 2) d_La_law_406 (by decide) ?_
    refine zo_iadd (i := i_La_law) (pc := 407) d_La_law_407 ?_
    refine zs_iaload (i := i_La_law) (pc := 408) hX hlt d_La_law_408 (by rw [show nI (5 * c + 1) + 2 = nI (5 * c + 1 + 2) from nI_add _ 2]; exact vp_in_nI (by omega) (by omega)) ?_
    refine zo_aload_n (i := i_La_law) (pc := 409) d_La_law_409 rfl rfl ?_
    refine zo_iload (i := i_La_law) (pc := 410) d_La_law_410 rfl ?_
    refine zo_iconst (i := i_La_law) (pc := 412) (v := 3) d_La_law_412 (by decide) ?_
    refine zo_iadd (i := i_La_law) (pc := 413) d_La_law_413 ?_
    refine zs_iaload (i := i_La_law) (pc := 414) hX hlt d_La_law_414 (by rw [show nI (5 * c + 1) + 3 = nI (5 * c + 1 + 3) from nI_add _ 3]; exact vp_in_nI (by omega) (by omega)) ?_
    refine zc_V3 (i := i_La_law) (pc := 415) 10 rfl m_Mo_told (ztb_of k_1073 rfl) (ztb_of k_1074 rfl) (ztb_of k_1075 rfl) d_La_law_415 (Nat.le_of_ble_eq_true rfl) (by show cl + 2 + 0 ≤ 601024; omega) (by show sl + 12 + 0 ≤ 7293000; omega) (Nat.le_of_ble_eq_true rfl) hB (l_told hS hi (by omega) (fun hg2 => absurd hg2 hg) (fun _ ws hS => ?_) (fun hg2 => absurd hg2 hg))
    have hL2 := back _ _ _ hS
    obtain ⟨fB2, hB2⟩ := hL2.mo
    have hlo2 := hL2.ans
    refine zo_aload_n (i := i_La_law) (pc := 418) d_La_law_418 rfl rfl ?_
    refine zc_V0 (i := i_La_law) (pc := 419) 10 rfl m_Mo_thrown (ztb_of k_956 rfl) (ztb_of k_957 rfl) (ztb_of k_958 rfl) d_La_law_419 (Nat.le_of_ble_eq_true rfl) (by show cl + 2 + 0 + 0 ≤ 601024; omega) (by show sl + 12 + 0 + 0 ≤ 7293000; omega) (Nat.le_of_ble_eq_true rfl) hB2 (l_thrown hS ?_)
    refine zo_iload (i := i_La_law) (pc := 422) d_La_law_422 rfl ?_
    refine zo_icmp_eq (i := i_La_law) (pc := 424) (tgt := 429) d_La_law_424 (by decide) (fun h424 => ?_) (fun h424 => False.elim (by first | exact absurd h424 (rfl) | exact absurd (rfl) h424))
    refine zo_goto (i := i_La_law) (pc := 429) (tgt := 1070) d_La_law_429 (by decide) ?_
    exact k _ _ _ _ _ _ _ _ (by show cl + 2 + 0 + 0 ≤ _; omega) (by show sl + 12 + 0 + 0 ≤ _; omega) hL2 (hi.mono (by omega) (by omega) (by omega) (by omega))
  · have hL1 : zLaw g A B lo [] (q) (q) t fl ws := ⟨m, F, hr, hh⟩
    obtain ⟨fB, hB⟩ := hL1.mo
    have hA := hL1.host
    have hlo := hL1.ans
    obtain ⟨X, hS, back⟩ := hL1.model
    refine zo_istore (i := i_La_law) (pc := 394) d_La_law_394 (Nat.le_of_ble_eq_true rfl) ?_
    refine zo_aload_n (i := i_La_law) (pc := 396) d_La_law_396 rfl rfl ?_
    refine zo_aload_n (i := i_La_law) (pc := 397) d_La_law_397 rfl rfl ?_
    refine zo_iload (i := i_La_law) (pc := 398) d_La_law_398 rfl ?_
    refine zo_iconst (i := i_La_law) (pc := 400) (v := 1) d_La_law_400 (by decide) ?_
    refine zo_iadd (i := i_La_law) (pc := 401) d_La_law_401 ?_
    refine zs_iaload (i := i_La_law) (pc := 402) hX hlt d_La_law_402 (by rw [show nI (5 * c + 1) + 1 = nI (5 * c + 1 + 1) from nI_add _ 1]; exact vp_in_nI (by omega) (by omega)) ?_
    refine zo_aload_n (i := i_La_law) (pc := 403) d_La_law_403 rfl rfl ?_
    refine zo_iload (i := i_La_law) (pc := 404) d_La_law_404 rfl ?_
    refine zo_iconst (i := i_La_law) (pc := 406) (v := 2) d_La_law_406 (by decide) ?_
    refine zo_iadd (i := i_La_law) (pc := 407) d_La_law_407 ?_
    refine zs_iaload (i := i_La_law) (pc := 408) hX hlt d_La_law_408 (by rw [show nI (5 * c + 1) + 2 = nI (5 * c + 1 + 2) from nI_add _ 2]; exact vp_in_nI (by omega) (by omega)) ?_
    refine zo_aload_n (i := i_La_law) (pc := 409) d_La_law_409 rfl rfl ?_
    refine zo_iload (i := i_La_law) (pc := 410) d_La_law_410 rfl ?_
    refine zo_iconst (i := i_La_law) (pc := 412) (v := 3) d_La_law_412 (by decide) ?_
    refine zo_iadd (i := i_La_law) (pc := 413) d_La_law_413 ?_
    refine zs_iaload (i := i_La_law) (pc := 414) hX hlt d_La_law_414 (by rw [show nI (5 * c + 1) + 3 = nI (5 * c + 1 + 3) from nI_add _ 3]; exact vp_in_nI (by omega) (by omega)) ?_
    refine zc_V3 (i := i_La_law) (pc := 415) 10 rfl m_Mo_told (ztb_of k_1073 rfl) (ztb_of k_1074 rfl) (ztb_of k_1075 rfl) d_La_law_415 (Nat.le_of_ble_eq_true rfl) (by show cl + 2 + 0 ≤ 601024; omega) (by show sl + 12 + 0 ≤ 7293000; omega) (Nat.le_of_ble_eq_true rfl) hB (l_told hS hi (by omega) (fun _ hd2 => absurd (hd.symm.trans hd2) (by decide)) (fun hn2 => absurd hg hn2) (fun _ _ ws hS => ?_))
    have hL2 := back _ _ _ hS
    obtain ⟨fB2, hB2⟩ := hL2.mo
    have hlo2 := hL2.ans
    refine zo_aload_n (i := i_La_law) (pc := 418) d_La_law_418 rfl rfl ?_
    refine zc_V0 (i := i_La_law) (pc := 419) 10 rfl m_Mo_thrown (ztb_of k_956 rfl) (ztb_of k_957 rfl) (ztb_of k_958 rfl) d_La_law_419 (Nat.le_of_ble_eq_true rfl) (by show cl + 2 + 0 + 0 ≤ 601024; omega) (by show sl + 12 + 0 + 0 ≤ 7293000; omega) (Nat.le_of_ble_eq_true rfl) hB2 (l_thrown hS ?_)
    refine zo_iload (i := i_La_law) (pc := 422) d_La_law_422 rfl ?_
    refine zo_icmp_eq (i := i_La_law) (pc := 424) (tgt := 429) d_La_law_424 (by decide) (fun h424 => ?_) (fun h424 => False.elim (by first | exact absurd h424 (rfl) | exact absurd (rfl) h424))
    refine zo_goto (i := i_La_law) (pc := 429) (tgt := 1070) d_La_law_429 (by decide) ?_
    exact k _ _ _ _ _ _ _ _ (by show cl + 2 + 0 + 0 ≤ _; omega) (by show sl + 12 + 0 + 0 ≤ _; omega) hL2 (hi.mono (by omega) (by omega) (by omega) (by omega))
theorem law_send {x0 : zX} {g : zG} {A B : Nat → Nat} {lo sc n c : Nat} {fs : Nat → Int32} {q : hT} {t : Int32} {fl : Nat → Int64} {ws : va_W} {T U cl sl : Nat} {o5 o6 : Option Value} (hnt : g.1.stackTraces = false) (hX : va_X sc n fs x0.2.2.1 x0.2.2.1.heap) (hlt : sc < g.2.2.2) (hL : zLaw g A B lo [] (q) (q) t fl ws) (hi : hI q T U) (hTT : T + 100 < 1000000) (hU : U + 1100 < 2000000000) (hcl : cl + 6 ≤ 601024) (hsl : sl + 41 ≤ 7293000) (hc : 5 * c + 6 ≤ n) (hn : n < 1000000) (k : ∀ (q2 : hT) (t2 : Int32) (fl2 : Nat → Int64) (w : va_W) (p5 p6 : Option Value) (cl2 sl2 : Nat), cl2 ≤ cl + 6 → sl2 ≤ sl + 41 → zLaw g A B lo [] (q2) (q2) t2 fl2 w → hI q2 (T + 100) (U + 1100) → zW x0 g i_La_law 1070 [some (.ref sc), some (.ref (A 0)), some (.ref (B 0)), some (.ref lo), some (.int (nI (5 * c + 1))), p5, p6] [] w cl2 sl2) : zW x0 g i_La_law 432 [some (.ref sc), some (.ref (A 0)), some (.ref (B 0)), some (.ref lo), some (.int (nI (5 * c + 1))), o5, o6] [] ws cl sl := by
  obtain ⟨fB, hB⟩ := hL.mo
  have hA := hL.host
  have hlo := hL.ans
  refine zo_aload_n (i := i_La_law) (pc := 432) d_La_law_432 rfl rfl ?_
  refine zo_aload_n (i := i_La_law) (pc := 433) d_La_law_433 rfl rfl ?_
  refine zo_iload (i := i_La_law) (pc := 434) d_La_law_434 rfl ?_
  refine zo_iconst (i := i_La_law) (pc := 436) (v := 1) d_La_law_436 (by decide) ?_
  refine zo_iadd (i := i_La_law) (pc := 437) d_La_law_437 ?_
  refine zs_iaload (i := i_La_law) (pc := 438) hX hlt d_La_law_438 (by rw [show nI (5 * c + 1) + 1 = nI (5 * c + 1 + 1) from nI_add _ 1]; exact vp_in_nI (by omega) (by omega)) ?_
  refine zo_aload_n (i := i_La_law) (pc := 439) d_La_law_439 rfl rfl ?_
  refine zo_iload (i := i_La_law) (pc := 440) d_La_law_440 rfl ?_
  refine zo_iconst (i := i_La_law) (pc := 442) (v := 2) d_La_law_442 (by decide) ?_
  refine zo_iadd (i := i_La_law) (pc := 443) d_La_law_443 ?_
  refine zs_iaload (i := i_La_law) (pc := 444) hX hlt d_La_law_444 (by rw [show nI (5 * c + 1) + 2 = nI (5 * c + 1 + 2) from nI_add _ 2]; exact vp_in_nI (by omega) (by omega)) ?_
  refine zo_aload_n (i := i_La_law) (pc := 445) d_La_law_445 rfl rfl ?_
  obtain ⟨m, F, hr, hh⟩ := id hL
  refine zw_callS (i := i_La_law) (pc := 446) (av := [.ref (A 0), .int (fs (nI (5 * c + 1) + 1).toNatClampNeg), .int (fs (nI (5 * c + 1) + 2).toNatClampNeg), .ref lo]) m_La_send (ztb_of k_684 rfl) (ztb_of k_685 rfl) d_La_law_446 rfl (Nat.le_of_ble_eq_true rfl) (by show cl + 4 ≤ 601024; omega) (by show sl + 28 ≤ 7293000; omega) (Nat.le_of_ble_eq_true rfl) rfl (c_La_send hnt hh (fun hg hd ws hw => ?_) (fun hg => ?_) (fun hg hd => ?_))
  · have hL1 : zLaw g A B lo [] ((sendQ q (fs (nI (5 * c + 1) + 1).toNatClampNeg) (fs (nI (5 * c + 1) + 2).toNatClampNeg)).2) (q) t (vp_updL fl 0 (((sendQ q (fs (nI (5 * c + 1) + 1).toNatClampNeg) (fs (nI (5 * c + 1) + 2).toNatClampNeg)).1).toInt64)) ws := ⟨m, F, hr, hw⟩
    obtain ⟨fB, hB⟩ := hL1.mo
    have hA := hL1.host
    have hlo := hL1.ans
    obtain ⟨X, hS, back⟩ := hL1.model
    refine zo_istore (i := i_La_law) (pc := 449) d_La_law_449 (Nat.le_of_ble_eq_true rfl) ?_
    refine zo_aload_n (i := i_La_law) (pc := 451) d_La_law_451 rfl rfl ?_
    refine zo_aload_n (i := i_La_law) (pc := 452) d_La_law_452 rfl rfl ?_
    refine zo_iload (i := i_La_law) (pc := 453) d_La_law_453 rfl ?_
    refine zo_iconst (i := i_La_law) (pc := 455) (v := 1) d_La_law_455 (by decide) ?_
    refine zo_iadd (i := i_La_law) (pc := 456) d_La_law_456 ?_
    refine zs_iaload (i := i_La_law) (pc := 457) hX hlt d_La_law_457 (by rw [show nI (5 * c + 1) + 1 = nI (5 * c + 1 + 1) from nI_add _ 1]; exact vp_in_nI (by omega) (by omega)) ?_
    refine zo_aload_n (i := i_La_law) (pc := 458) d_La_law_458 rfl rfl ?_
    refine zo_iload (i := i_La_law) (pc := 459) d_La_law_459 rfl ?_
    refine zo_iconst (i := i_La_law) (pc := 461) (v := 2) d_La_law_461 (by decide) ?_
    refine zo_iadd (i := i_La_law) (pc := 462) d_La_law_462 ?_
    refine zs_iaload (i := i_La_law) (pc := 463) hX hlt d_La_law_463 (by rw [show nI (5 * c + 1) + 2 = nI (5 * c + 1 + 2) from nI_add _ 2]; exact vp_in_nI (by omega) (by omega)) ?_
    refine zc_V2 (i := i_La_law) (pc := 464) 10 rfl m_Mo_send (ztb_of k_1081 rfl) (ztb_of k_1082 rfl) (ztb_of k_1083 rfl) d_La_law_464 (Nat.le_of_ble_eq_true rfl) (by show cl + 4 + 0 ≤ 601024; omega) (by show sl + 28 + 0 ≤ 7293000; omega) (Nat.le_of_ble_eq_true rfl) hB (l_send hS hi (fun _ _ ws hS => ?_) (fun hn2 => absurd hg hn2) (fun _ hd2 => absurd (hd.symm.trans hd2) (by decide)))
    have hL2 := back _ _ _ hS
    obtain ⟨fB2, hB2⟩ := hL2.mo
    have hlo2 := hL2.ans
    refine zo_istore (i := i_La_law) (pc := 467) d_La_law_467 (Nat.le_of_ble_eq_true rfl) ?_
    refine zo_aload_n (i := i_La_law) (pc := 469) d_La_law_469 rfl rfl ?_
    refine zc_V0 (i := i_La_law) (pc := 470) 10 rfl m_Mo_thrown (ztb_of k_956 rfl) (ztb_of k_957 rfl) (ztb_of k_958 rfl) d_La_law_470 (Nat.le_of_ble_eq_true rfl) (by show cl + 4 + 0 + 0 ≤ 601024; omega) (by show sl + 28 + 0 + 0 ≤ 7293000; omega) (Nat.le_of_ble_eq_true rfl) hB2 (l_thrown hS ?_)
    refine zo_iload (i := i_La_law) (pc := 473) d_La_law_473 rfl ?_
    refine zo_icmp_eq (i := i_La_law) (pc := 475) (tgt := 480) d_La_law_475 (by decide) (fun h475 => ?_) (fun h475 => False.elim (by first | exact absurd h475 (rfl) | exact absurd (rfl) h475))
    refine zo_iload (i := i_La_law) (pc := 480) d_La_law_480 rfl ?_
    refine zo_if_ne (i := i_La_law) (pc := 482) (tgt := 497) d_La_law_482 (by decide) (fun h482 => False.elim (by first | exact absurd h482 (rfl) | exact absurd (rfl) h482)) (fun h482 => ?_)
    refine zo_aload_n (i := i_La_law) (pc := 485) d_La_law_485 rfl rfl ?_
    refine zo_iconst (i := i_La_law) (pc := 486) (v := 0) d_La_law_486 (by decide) ?_
    refine zo_laload (i := i_La_law) (pc := 487) d_La_law_487 hlo2 (by unfold vp_in; decide) ?_
    refine zo_iload (i := i_La_law) (pc := 488) d_La_law_488 rfl ?_
    refine zo_i2l (i := i_La_law) (pc := 490) d_La_law_490 ?_
    refine zo_lcmp (i := i_La_law) (pc := 491) d_La_law_491 ?_
    refine zo_if_eq (i := i_La_law) (pc := 492) (tgt := 497) d_La_law_492 (by decide) (fun h492 => ?_) (fun h492 => False.elim (by first | exact absurd h492 ((by rw [show vp_updL fl 0 (((sendQ q (fs (nI (5 * c + 1) + 1).toNatClampNeg) (fs (nI (5 * c + 1) + 2).toNatClampNeg)).1).toInt64) (0 : Int32).toNatClampNeg = ((sendQ q (fs (nI (5 * c + 1) + 1).toNatClampNeg) (fs (nI (5 * c + 1) + 2).toNatClampNeg)).1).toInt64 from rfl]; exact lg_same _)) | exact absurd ((by rw [show vp_updL fl 0 (((sendQ q (fs (nI (5 * c + 1) + 1).toNatClampNeg) (fs (nI (5 * c + 1) + 2).toNatClampNeg)).1).toInt64) (0 : Int32).toNatClampNeg = ((sendQ q (fs (nI (5 * c + 1) + 1).toNatClampNeg) (fs (nI (5 * c + 1) + 2).toNatClampNeg)).1).toInt64 from rfl]; exact lg_same _)) h492))
    refine zo_goto (i := i_La_law) (pc := 497) (tgt := 1070) d_La_law_497 (by decide) ?_
    exact k _ _ _ _ _ _ _ _ (by show cl + 4 + 0 + 0 ≤ _; omega) (by show sl + 28 + 0 + 0 ≤ _; omega) hL2 ((hI_send (t := (fs (nI (5 * c + 1) + 1).toNatClampNeg)) hi (by omega) hg.2).mono (by omega) (by omega) (by omega) (by omega))
  · have hL1 : zLaw g A B lo [] (q) (q) t fl ws := ⟨m, F, hr, hh⟩
    obtain ⟨fB, hB⟩ := hL1.mo
    have hA := hL1.host
    have hlo := hL1.ans
    obtain ⟨X, hS, back⟩ := hL1.model
    refine zo_istore (i := i_La_law) (pc := 449) d_La_law_449 (Nat.le_of_ble_eq_true rfl) ?_
    refine zo_aload_n (i := i_La_law) (pc := 451) d_La_law_451 rfl rfl ?_
    refine zo_aload_n (i := i_La_law) (pc := 452) d_La_law_452 rfl rfl ?_
    refine zo_iload (i := i_La_law) (pc := 453) d_La_law_453 rfl ?_
    refine zo_iconst (i := i_La_law) (pc := 455) (v := 1) d_La_law_455 (by decide) ?_
    refine zo_iadd (i := i_La_law) (pc := 456) d_La_law_456 ?_
    refine zs_iaload (i := i_La_law) (pc := 457) hX hlt d_La_law_457 (by rw [show nI (5 * c + 1) + 1 = nI (5 * c + 1 + 1) from nI_add _ 1]; exact vp_in_nI (by omega) (by omega)) ?_
    refine zo_aload_n (i := i_La_law) (pc := 458) d_La_law_458 rfl rfl ?_
    refine zo_iload (i := i_La_law) (pc := 459) d_La_law_459 rfl ?_
    refine zo_iconst (i := i_La_law) (pc := 461) (v := 2) d_La_law_461 (by decide) ?_
    refine zo_iadd (i := i_La_law) (pc := 462) d_La_law_462 ?_
    refine zs_iaload (i := i_La_law) (pc := 463) hX hlt d_La_law_463 (by rw [show nI (5 * c + 1) + 2 = nI (5 * c + 1 + 2) from nI_add _ 2]; exact vp_in_nI (by omega) (by omega)) ?_
    refine zc_V2 (i := i_La_law) (pc := 464) 10 rfl m_Mo_send (ztb_of k_1081 rfl) (ztb_of k_1082 rfl) (ztb_of k_1083 rfl) d_La_law_464 (Nat.le_of_ble_eq_true rfl) (by show cl + 4 + 0 ≤ 601024; omega) (by show sl + 28 + 0 ≤ 7293000; omega) (Nat.le_of_ble_eq_true rfl) hB (l_send hS hi (fun hg2 => absurd hg2 hg) (fun _ ws hS => ?_) (fun hg2 => absurd hg2 hg))
    have hL2 := back _ _ _ hS
    obtain ⟨fB2, hB2⟩ := hL2.mo
    have hlo2 := hL2.ans
    refine zo_istore (i := i_La_law) (pc := 467) d_La_law_467 (Nat.le_of_ble_eq_true rfl) ?_
    refine zo_aload_n (i := i_La_law) (pc := 469) d_La_law_469 rfl rfl ?_
    refine zc_V0 (i := i_La_law) (pc := 470) 10 rfl m_Mo_thrown (ztb_of k_956 rfl) (ztb_of k_957 rfl) (ztb_of k_958 rfl) d_La_law_470 (Nat.le_of_ble_eq_true rfl) (by show cl + 4 + 0 + 0 ≤ 601024; omega) (by show sl + 28 + 0 + 0 ≤ 7293000; omega) (Nat.le_of_ble_eq_true rfl) hB2 (l_thrown hS ?_)
    refine zo_iload (i := i_La_law) (pc := 473) d_La_law_473 rfl ?_
    refine zo_icmp_eq (i := i_La_law) (pc := 475) (tgt := 480) d_La_law_475 (by decide) (fun h475 => ?_) (fun h475 => False.elim (by first | exact absurd h475 (rfl) | exact absurd (rfl) h475))
    refine zo_iload (i := i_La_law) (pc := 480) d_La_law_480 rfl ?_
    refine zo_if_ne (i := i_La_law) (pc := 482) (tgt := 497) d_La_law_482 (by decide) (fun h482 => ?_) (fun h482 => False.elim (by first | exact absurd h482 ((by decide)) | exact absurd ((by decide)) h482))
    refine zo_goto (i := i_La_law) (pc := 497) (tgt := 1070) d_La_law_497 (by decide) ?_
    exact k _ _ _ _ _ _ _ _ (by show cl + 4 + 0 + 0 ≤ _; omega) (by show sl + 28 + 0 + 0 ≤ _; omega) hL2 (hi.mono (by omega) (by omega) (by omega) (by omega))
  · have hL1 : zLaw g A B lo [] (q) (q) t fl ws := ⟨m, F, hr, hh⟩
    obtain ⟨fB, hB⟩ := hL1.mo
    have hA := hL1.host
    have hlo := hL1.ans
    obtain ⟨X, hS, back⟩ := hL1.model
    refine zo_istore (i := i_La_law) (pc := 449) d_La_law_449 (Nat.le_of_ble_eq_true rfl) ?_
    refine zo_aload_n (i := i_La_law) (pc := 451) d_La_law_451 rfl rfl ?_
    refine zo_aload_n (i := i_La_law) (pc := 452) d_La_law_452 rfl rfl ?_
    refine zo_iload (i := i_La_law) (pc := 453) d_La_law_453 rfl ?_
    refine zo_iconst (i := i_La_law) (pc := 455) (v := 1) d_La_law_455 (by decide) ?_
    refine zo_iadd (i := i_La_law) (pc := 456) d_La_law_456 ?_
    refine zs_iaload (i := i_La_law) (pc := 457) hX hlt d_La_law_457 (by rw [show nI (5 * c + 1) + 1 = nI (5 * c + 1 + 1) from nI_add _ 1]; exact vp_in_nI (by omega) (by omega)) ?_
    refine zo_aload_n (i := i_La_law) (pc := 458) d_La_law_458 rfl rfl ?_
    refine zo_iload (i := i_La_law) (pc := 459) d_La_law_459 rfl ?_
    refine zo_iconst (i := i_La_law) (pc := 461) (v := 2) d_La_law_461 (by decide) ?_
    refine zo_iadd (i := i_La_law) (pc := 462) d_La_law_462 ?_
    refine zs_iaload (i := i_La_law) (pc := 463) hX hlt d_La_law_463 (by rw [show nI (5 * c + 1) + 2 = nI (5 * c + 1 + 2) from nI_add _ 2]; exact vp_in_nI (by omega) (by omega)) ?_
    refine zc_V2 (i := i_La_law) (pc := 464) 10 rfl m_Mo_send (ztb_of k_1081 rfl) (ztb_of k_1082 rfl) (ztb_of k_1083 rfl) d_La_law_464 (Nat.le_of_ble_eq_true rfl) (by show cl + 4 + 0 ≤ 601024; omega) (by show sl + 28 + 0 ≤ 7293000; omega) (Nat.le_of_ble_eq_true rfl) hB (l_send hS hi (fun _ hd2 => absurd (hd.symm.trans hd2) (by decide)) (fun hn2 => absurd hg hn2) (fun _ _ ws hS => ?_))
    have hL2 := back _ _ _ hS
    obtain ⟨fB2, hB2⟩ := hL2.mo
    have hlo2 := hL2.ans
    refine zo_istore (i := i_La_law) (pc := 467) d_La_law_467 (Nat.le_of_ble_eq_true rfl) ?_
    refine zo_aload_n (i := i_La_law) (pc := 469) d_La_law_469 rfl rfl ?_
    refine zc_V0 (i := i_La_law) (pc := 470) 10 rfl m_Mo_thrown (ztb_of k_956 rfl) (ztb_of k_957 rfl) (ztb_of k_958 rfl) d_La_law_470 (Nat.le_of_ble_eq_true rfl) (by show cl + 4 + 0 + 0 ≤ 601024; omega) (by show sl + 28 + 0 + 0 ≤ 7293000; omega) (Nat.le_of_ble_eq_true rfl) hB2 (l_thrown hS ?_)
    refine zo_iload (i := i_La_law) (pc := 473) d_La_law_473 rfl ?_
    refine zo_icmp_eq (i := i_La_law) (pc := 475) (tgt := 480) d_La_law_475 (by decide) (fun h475 => ?_) (fun h475 => False.elim (by first | exact absurd h475 (rfl) | exact absurd (rfl) h475))
    refine zo_iload (i := i_La_law) (pc := 480) d_La_law_480 rfl ?_
    refine zo_if_ne (i := i_La_law) (pc := 482) (tgt := 497) d_La_law_482 (by decide) (fun h482 => ?_) (fun h482 => False.elim (by first | exact absurd h482 ((by decide)) | exact absurd ((by decide)) h482))
    refine zo_goto (i := i_La_law) (pc := 497) (tgt := 1070) d_La_law_497 (by decide) ?_
    exact k _ _ _ _ _ _ _ _ (by show cl + 4 + 0 + 0 ≤ _; omega) (by show sl + 28 + 0 + 0 ≤ _; omega) hL2 (hi.mono (by omega) (by omega) (by omega) (by omega))
theorem law_smaller {x0 : zX} {g : zG} {A B : Nat → Nat} {lo sc n c : Nat} {fs : Nat → Int32} {q : hT} {t : Int32} {fl : Nat → Int64} {ws : va_W} {T U cl sl : Nat} {o5 o6 : Option Value} (hnt : g.1.stackTraces = false) (hX : va_X sc n fs x0.2.2.1 x0.2.2.1.heap) (hlt : sc < g.2.2.2) (hL : zLaw g A B lo [] (q) (q) t fl ws) (hi : hI q T U) (hTT : T + 100 < 1000000) (hU : U + 1100 < 2000000000) (hcl : cl + 6 ≤ 601024) (hsl : sl + 41 ≤ 7293000) (hc : 5 * c + 6 ≤ n) (hn : n < 1000000) (k : ∀ (q2 : hT) (t2 : Int32) (fl2 : Nat → Int64) (w : va_W) (p5 p6 : Option Value) (cl2 sl2 : Nat), cl2 ≤ cl + 6 → sl2 ≤ sl + 41 → zLaw g A B lo [] (q2) (q2) t2 fl2 w → hI q2 (T + 100) (U + 1100) → zW x0 g i_La_law 1070 [some (.ref sc), some (.ref (A 0)), some (.ref (B 0)), some (.ref lo), some (.int (nI (5 * c + 1))), p5, p6] [] w cl2 sl2) : zW x0 g i_La_law 500 [some (.ref sc), some (.ref (A 0)), some (.ref (B 0)), some (.ref lo), some (.int (nI (5 * c + 1))), o5, o6] [] ws cl sl := by
  obtain ⟨fB, hB⟩ := hL.mo
  have hA := hL.host
  have hlo := hL.ans
  refine zo_aload_n (i := i_La_law) (pc := 500) d_La_law_500 rfl rfl ?_
  refine zo_aload_n (i := i_La_law) (pc := 501) d_La_law_501 rfl rfl ?_
  refine zo_iload (i := i_La_law) (pc := 502) d_La_law_502 rfl ?_
  refine zo_iconst (i := i_La_law) (pc := 504) (v := 1) d_La_law_504 (by decide) ?_
  refine zo_iadd (i := i_La_law) (pc := 505) d_La_law_505 ?_
  refine zs_iaload (i := i_La_law) (pc := 506) hX hlt d_La_law_506 (by rw [show nI (5 * c + 1) + 1 = nI (5 * c + 1 + 1) from nI_add _ 1]; exact vp_in_nI (by omega) (by omega)) ?_
  refine zo_aload_n (i := i_La_law) (pc := 507) d_La_law_507 rfl rfl ?_
  refine zo_iload (i := i_La_law) (pc := 508) d_La_law_508 rfl ?_
  refine zo_iconst (i := i_La_law) (pc := 510) (v := 2) d_La_law_510 (by decide) ?_
  refine zo_iadd (i := i_La_law) (pc := 511) d_La_law_511 ?_
  refine zs_iaload (i := i_La_law) (pc := 512) hX hlt d_La_law_512 (by rw [show nI (5 * c + 1) + 2 = nI (5 * c + 1 + 2) from nI_add _ 2]; exact vp_in_nI (by omega) (by omega)) ?_
  obtain ⟨m, F, hr, hh⟩ := id hL
  refine zw_callS (i := i_La_law) (pc := 513) (av := [.ref (A 0), .int (fs (nI (5 * c + 1) + 1).toNatClampNeg), .int (fs (nI (5 * c + 1) + 2).toNatClampNeg)]) m_La_smaller (ztb_of k_718 rfl) (ztb_of k_719 rfl) d_La_law_513 rfl (Nat.le_of_ble_eq_true rfl) (by show cl + 4 ≤ 601024; omega) (by show sl + 25 ≤ 7293000; omega) (Nat.le_of_ble_eq_true rfl) rfl (c_La_smaller hnt hh (fun hg hd ws hw => ?_) (fun hg => ?_) (fun hg hd => ?_))
  · have hL1 : zLaw g A B lo [] (smallT q (fs (nI (5 * c + 1) + 1).toNatClampNeg) (fs (nI (5 * c + 1) + 2).toNatClampNeg)) (q) t fl ws := ⟨m, F, hr, hw⟩
    obtain ⟨fB, hB⟩ := hL1.mo
    have hA := hL1.host
    have hlo := hL1.ans
    obtain ⟨X, hS, back⟩ := hL1.model
    refine zo_istore (i := i_La_law) (pc := 516) d_La_law_516 (Nat.le_of_ble_eq_true rfl) ?_
    refine zo_aload_n (i := i_La_law) (pc := 518) d_La_law_518 rfl rfl ?_
    refine zo_aload_n (i := i_La_law) (pc := 519) d_La_law_519 rfl rfl ?_
    refine zo_iload (i := i_La_law) (pc := 520) d_La_law_520 rfl ?_
    refine zo_iconst (i := i_La_law) (pc := 522) (v := 1) d_La_law_522 (by decide) ?_
    refine zo_iadd (i := i_La_law) (pc := 523) d_La_law_523 ?_
    refine zs_iaload (i := i_La_law) (pc := 524) hX hlt d_La_law_524 (by rw [show nI (5 * c + 1) + 1 = nI (5 * c + 1 + 1) from nI_add _ 1]; exact vp_in_nI (by omega) (by omega)) ?_
    refine zo_aload_n (i := i_La_law) (pc := 525) d_La_law_525 rfl rfl ?_
    refine zo_iload (i := i_La_law) (pc := 526) d_La_law_526 rfl ?_
    refine zo_iconst (i := i_La_law) (pc := 528) (v := 2) d_La_law_528 (by decide) ?_
    refine zo_iadd (i := i_La_law) (pc := 529) d_La_law_529 ?_
    refine zs_iaload (i := i_La_law) (pc := 530) hX hlt d_La_law_530 (by rw [show nI (5 * c + 1) + 2 = nI (5 * c + 1 + 2) from nI_add _ 2]; exact vp_in_nI (by omega) (by omega)) ?_
    refine zc_V2 (i := i_La_law) (pc := 531) 10 rfl m_Mo_smaller (ztb_of k_1093 rfl) (ztb_of k_1094 rfl) (ztb_of k_1095 rfl) d_La_law_531 (Nat.le_of_ble_eq_true rfl) (by show cl + 4 + 0 ≤ 601024; omega) (by show sl + 25 + 0 ≤ 7293000; omega) (Nat.le_of_ble_eq_true rfl) hB (l_smaller hS hi (fun _ _ ws hS => ?_) (fun hn2 => absurd hg hn2) (fun _ hd2 => absurd (hd.symm.trans hd2) (by decide)))
    have hL2 := back _ _ _ hS
    obtain ⟨fB2, hB2⟩ := hL2.mo
    have hlo2 := hL2.ans
    refine zo_aload_n (i := i_La_law) (pc := 534) d_La_law_534 rfl rfl ?_
    refine zc_V0 (i := i_La_law) (pc := 535) 10 rfl m_Mo_thrown (ztb_of k_956 rfl) (ztb_of k_957 rfl) (ztb_of k_958 rfl) d_La_law_535 (Nat.le_of_ble_eq_true rfl) (by show cl + 4 + 0 + 0 ≤ 601024; omega) (by show sl + 25 + 0 + 0 ≤ 7293000; omega) (Nat.le_of_ble_eq_true rfl) hB2 (l_thrown hS ?_)
    refine zo_iload (i := i_La_law) (pc := 538) d_La_law_538 rfl ?_
    refine zo_icmp_eq (i := i_La_law) (pc := 540) (tgt := 545) d_La_law_540 (by decide) (fun h540 => ?_) (fun h540 => False.elim (by first | exact absurd h540 (rfl) | exact absurd (rfl) h540))
    refine zo_goto (i := i_La_law) (pc := 545) (tgt := 1070) d_La_law_545 (by decide) ?_
    exact k _ _ _ _ _ _ _ _ (by show cl + 4 + 0 + 0 ≤ _; omega) (by show sl + 25 + 0 + 0 ≤ _; omega) hL2 ((hI_small (t := (fs (nI (5 * c + 1) + 1).toNatClampNeg)) (n := (fs (nI (5 * c + 1) + 2).toNatClampNeg)) hi).mono (by omega) (by omega) (by omega) (by omega))
  · have hL1 : zLaw g A B lo [] (q) (q) t fl ws := ⟨m, F, hr, hh⟩
    obtain ⟨fB, hB⟩ := hL1.mo
    have hA := hL1.host
    have hlo := hL1.ans
    obtain ⟨X, hS, back⟩ := hL1.model
    refine zo_istore (i := i_La_law) (pc := 516) d_La_law_516 (Nat.le_of_ble_eq_true rfl) ?_
    refine zo_aload_n (i := i_La_law) (pc := 518) d_La_law_518 rfl rfl ?_
    refine zo_aload_n (i := i_La_law) (pc := 519) d_La_law_519 rfl rfl ?_
    refine zo_iload (i := i_La_law) (pc := 520) d_La_law_520 rfl ?_
    refine zo_iconst (i := i_La_law) (pc := 522) (v := 1) d_La_law_522 (by decide) ?_
    refine zo_iadd (i := i_La_law) (pc := 523) d_La_law_523 ?_
    refine zs_iaload (i := i_La_law) (pc := 524) hX hlt d_La_law_524 (by rw [show nI (5 * c + 1) + 1 = nI (5 * c + 1 + 1) from nI_add _ 1]; exact vp_in_nI (by omega) (by omega)) ?_
    refine zo_aload_n (i := i_La_law) (pc := 525) d_La_law_525 rfl rfl ?_
    refine zo_iload (i := i_La_law) (pc := 526) d_La_law_526 rfl ?_
    refine zo_iconst (i := i_La_law) (pc := 528) (v := 2) d_La_law_528 (by decide) ?_
    refine zo_iadd (i := i_La_law) (pc := 529) d_La_law_529 ?_
    refine zs_iaload (i := i_La_law) (pc := 530) hX hlt d_La_law_530 (by rw [show nI (5 * c + 1) + 2 = nI (5 * c + 1 + 2) from nI_add _ 2]; exact vp_in_nI (by omega) (by omega)) ?_
    refine zc_V2 (i := i_La_law) (pc := 531) 10 rfl m_Mo_smaller (ztb_of k_1093 rfl) (ztb_of k_1094 rfl) (ztb_of k_1095 rfl) d_La_law_531 (Nat.le_of_ble_eq_true rfl) (by show cl + 4 + 0 ≤ 601024; omega) (by show sl + 25 + 0 ≤ 7293000; omega) (Nat.le_of_ble_eq_true rfl) hB (l_smaller hS hi (fun hg2 => absurd hg2 hg) (fun _ ws hS => ?_) (fun hg2 => absurd hg2 hg))
    have hL2 := back _ _ _ hS
    obtain ⟨fB2, hB2⟩ := hL2.mo
    have hlo2 := hL2.ans
    refine zo_aload_n (i := i_La_law) (pc := 534) d_La_law_534 rfl rfl ?_
    refine zc_V0 (i := i_La_law) (pc := 535) 10 rfl m_Mo_thrown (ztb_of k_956 rfl) (ztb_of k_957 rfl) (ztb_of k_958 rfl) d_La_law_535 (Nat.le_of_ble_eq_true rfl) (by show cl + 4 + 0 + 0 ≤ 601024; omega) (by show sl + 25 + 0 + 0 ≤ 7293000; omega) (Nat.le_of_ble_eq_true rfl) hB2 (l_thrown hS ?_)
    refine zo_iload (i := i_La_law) (pc := 538) d_La_law_538 rfl ?_
    refine zo_icmp_eq (i := i_La_law) (pc := 540) (tgt := 545) d_La_law_540 (by decide) (fun h540 => ?_) (fun h540 => False.elim (by first | exact absurd h540 (rfl) | exact absurd (rfl) h540))
    refine zo_goto (i := i_La_law) (pc := 545) (tgt := 1070) d_La_law_545 (by decide) ?_
    exact k _ _ _ _ _ _ _ _ (by show cl + 4 + 0 + 0 ≤ _; omega) (by show sl + 25 + 0 + 0 ≤ _; omega) hL2 (hi.mono (by omega) (by omega) (by omega) (by omega))
  · have hL1 : zLaw g A B lo [] (q) (q) t fl ws := ⟨m, F, hr, hh⟩
    obtain ⟨fB, hB⟩ := hL1.mo
    have hA := hL1.host
    have hlo := hL1.ans
    obtain ⟨X, hS, back⟩ := hL1.model
    refine zo_istore (i := i_La_law) (pc := 516) d_La_law_516 (Nat.le_of_ble_eq_true rfl) ?_
    refine zo_aload_n (i := i_La_law) (pc := 518) d_La_law_518 rfl rfl ?_
    refine zo_aload_n (i := i_La_law) (pc := 519) d_La_law_519 rfl rfl ?_
    refine zo_iload (i := i_La_law) (pc := 520) d_La_law_520 rfl ?_
    refine zo_iconst (i := i_La_law) (pc := 522) (v := 1) d_La_law_522 (by decide) ?_
    refine zo_iadd (i := i_La_law) (pc := 523) d_La_law_523 ?_
    refine zs_iaload (i := i_La_law) (pc := 524) hX hlt d_La_law_524 (by rw [show nI (5 * c + 1) + 1 = nI (5 * c + 1 + 1) from nI_add _ 1]; exact vp_in_nI (by omega) (by omega)) ?_
    refine zo_aload_n (i := i_La_law) (pc := 525) d_La_law_525 rfl rfl ?_
    refine zo_iload (i := i_La_law) (pc := 526) d_La_law_526 rfl ?_
    refine zo_iconst (i := i_La_law) (pc := 528) (v := 2) d_La_law_528 (by decide) ?_
    refine zo_iadd (i := i_La_law) (pc := 529) d_La_law_529 ?_
    refine zs_iaload (i := i_La_law) (pc := 530) hX hlt d_La_law_530 (by rw [show nI (5 * c + 1) + 2 = nI (5 * c + 1 + 2) from nI_add _ 2]; exact vp_in_nI (by omega) (by omega)) ?_
    refine zc_V2 (i := i_La_law) (pc := 531) 10 rfl m_Mo_smaller (ztb_of k_1093 rfl) (ztb_of k_1094 rfl) (ztb_of k_1095 rfl) d_La_law_531 (Nat.le_of_ble_eq_true rfl) (by show cl + 4 + 0 ≤ 601024; omega) (by show sl + 25 + 0 ≤ 7293000; omega) (Nat.le_of_ble_eq_true rfl) hB (l_smaller hS hi (fun _ hd2 => absurd (hd.symm.trans hd2) (by decide)) (fun hn2 => absurd hg hn2) (fun _ _ ws hS => ?_))
    have hL2 := back _ _ _ hS
    obtain ⟨fB2, hB2⟩ := hL2.mo
    have hlo2 := hL2.ans
    refine zo_aload_n (i := i_La_law) (pc := 534) d_La_law_534 rfl rfl ?_
    refine zc_V0 (i := i_La_law) (pc := 535) 10 rfl m_Mo_thrown (ztb_of k_956 rfl) (ztb_of k_957 rfl) (ztb_of k_958 rfl) d_La_law_535 (Nat.le_of_ble_eq_true rfl) (by show cl + 4 + 0 + 0 ≤ 601024; omega) (by show sl + 25 + 0 + 0 ≤ 7293000; omega) (Nat.le_of_ble_eq_true rfl) hB2 (l_thrown hS ?_)
    refine zo_iload (i := i_La_law) (pc := 538) d_La_law_538 rfl ?_
    refine zo_icmp_eq (i := i_La_law) (pc := 540) (tgt := 545) d_La_law_540 (by decide) (fun h540 => ?_) (fun h540 => False.elim (by first | exact absurd h540 (rfl) | exact absurd (rfl) h540))
    refine zo_goto (i := i_La_law) (pc := 545) (tgt := 1070) d_La_law_545 (by decide) ?_
    exact k _ _ _ _ _ _ _ _ (by show cl + 4 + 0 + 0 ≤ _; omega) (by show sl + 25 + 0 + 0 ≤ _; omega) hL2 (hi.mono (by omega) (by omega) (by omega) (by omega))
theorem law_header {x0 : zX} {g : zG} {A B : Nat → Nat} {lo sc n c : Nat} {fs : Nat → Int32} {q : hT} {t : Int32} {fl : Nat → Int64} {ws : va_W} {T U cl sl : Nat} {o5 o6 : Option Value} (hnt : g.1.stackTraces = false) (hX : va_X sc n fs x0.2.2.1 x0.2.2.1.heap) (hlt : sc < g.2.2.2) (hL : zLaw g A B lo [] (q) (q) t fl ws) (hi : hI q T U) (hTT : T + 100 < 1000000) (hU : U + 1100 < 2000000000) (hcl : cl + 6 ≤ 601024) (hsl : sl + 41 ≤ 7293000) (hc : 5 * c + 6 ≤ n) (hn : n < 1000000) (k : ∀ (q2 : hT) (t2 : Int32) (fl2 : Nat → Int64) (w : va_W) (p5 p6 : Option Value) (cl2 sl2 : Nat), cl2 ≤ cl + 6 → sl2 ≤ sl + 41 → zLaw g A B lo [] (q2) (q2) t2 fl2 w → hI q2 (T + 100) (U + 1100) → zW x0 g i_La_law 1070 [some (.ref sc), some (.ref (A 0)), some (.ref (B 0)), some (.ref lo), some (.int (nI (5 * c + 1))), p5, p6] [] w cl2 sl2) : zW x0 g i_La_law 548 [some (.ref sc), some (.ref (A 0)), some (.ref (B 0)), some (.ref lo), some (.int (nI (5 * c + 1))), o5, o6] [] ws cl sl := by
  obtain ⟨fB, hB⟩ := hL.mo
  have hA := hL.host
  have hlo := hL.ans
  refine zo_aload_n (i := i_La_law) (pc := 548) d_La_law_548 rfl rfl ?_
  refine zo_aload_n (i := i_La_law) (pc := 549) d_La_law_549 rfl rfl ?_
  refine zo_iload (i := i_La_law) (pc := 550) d_La_law_550 rfl ?_
  refine zo_iconst (i := i_La_law) (pc := 552) (v := 1) d_La_law_552 (by decide) ?_
  refine zo_iadd (i := i_La_law) (pc := 553) d_La_law_553 ?_
  refine zs_iaload (i := i_La_law) (pc := 554) hX hlt d_La_law_554 (by rw [show nI (5 * c + 1) + 1 = nI (5 * c + 1 + 1) from nI_add _ 1]; exact vp_in_nI (by omega) (by omega)) ?_
  refine zo_aload_n (i := i_La_law) (pc := 555) d_La_law_555 rfl rfl ?_
  refine zo_iload (i := i_La_law) (pc := 556) d_La_law_556 rfl ?_
  refine zo_iconst (i := i_La_law) (pc := 558) (v := 2) d_La_law_558 (by decide) ?_
  refine zo_iadd (i := i_La_law) (pc := 559) d_La_law_559 ?_
  refine zs_iaload (i := i_La_law) (pc := 560) hX hlt d_La_law_560 (by rw [show nI (5 * c + 1) + 2 = nI (5 * c + 1 + 2) from nI_add _ 2]; exact vp_in_nI (by omega) (by omega)) ?_
  refine zo_aload_n (i := i_La_law) (pc := 561) d_La_law_561 rfl rfl ?_
  obtain ⟨m, F, hr, hh⟩ := id hL
  refine zw_callS (i := i_La_law) (pc := 562) (av := [.ref (A 0), .int (fs (nI (5 * c + 1) + 1).toNatClampNeg), .int (fs (nI (5 * c + 1) + 2).toNatClampNeg), .ref lo]) m_La_header (ztb_of k_725 rfl) (ztb_of k_726 rfl) d_La_law_562 rfl (Nat.le_of_ble_eq_true rfl) (by show cl + 2 ≤ 601024; omega) (by show sl + 12 ≤ 7293000; omega) (Nat.le_of_ble_eq_true rfl) rfl (c_La_header hnt hh (fun hg hd ws hw => ?_) (fun hg => ?_) (fun hg hd => ?_))
  · have hL1 : zLaw g A B lo [] (headT q (fs (nI (5 * c + 1) + 1).toNatClampNeg) (fs (nI (5 * c + 1) + 2).toNatClampNeg)) (q) t (vp_updL fl 0 ((nI (q.2.2.2.2.2.2.2.1 + 1)).toInt64)) ws := ⟨m, F, hr, hw⟩
    obtain ⟨fB, hB⟩ := hL1.mo
    have hA := hL1.host
    have hlo := hL1.ans
    obtain ⟨X, hS, back⟩ := hL1.model
    refine zo_istore (i := i_La_law) (pc := 565) d_La_law_565 (Nat.le_of_ble_eq_true rfl) ?_
    refine zo_aload_n (i := i_La_law) (pc := 567) d_La_law_567 rfl rfl ?_
    refine zo_aload_n (i := i_La_law) (pc := 568) d_La_law_568 rfl rfl ?_
    refine zo_iload (i := i_La_law) (pc := 569) d_La_law_569 rfl ?_
    refine zo_iconst (i := i_La_law) (pc := 571) (v := 1) d_La_law_571 (by decide) ?_
    refine zo_iadd (i := i_La_law) (pc := 572) d_La_law_572 ?_
    refine zs_iaload (i := i_La_law) (pc := 573) hX hlt d_La_law_573 (by rw [show nI (5 * c + 1) + 1 = nI (5 * c + 1 + 1) from nI_add _ 1]; exact vp_in_nI (by omega) (by omega)) ?_
    refine zo_aload_n (i := i_La_law) (pc := 574) d_La_law_574 rfl rfl ?_
    refine zo_iload (i := i_La_law) (pc := 575) d_La_law_575 rfl ?_
    refine zo_iconst (i := i_La_law) (pc := 577) (v := 2) d_La_law_577 (by decide) ?_
    refine zo_iadd (i := i_La_law) (pc := 578) d_La_law_578 ?_
    refine zs_iaload (i := i_La_law) (pc := 579) hX hlt d_La_law_579 (by rw [show nI (5 * c + 1) + 2 = nI (5 * c + 1 + 2) from nI_add _ 2]; exact vp_in_nI (by omega) (by omega)) ?_
    refine zc_V2 (i := i_La_law) (pc := 580) 10 rfl m_Mo_header (ztb_of k_1097 rfl) (ztb_of k_1098 rfl) (ztb_of k_1099 rfl) d_La_law_580 (Nat.le_of_ble_eq_true rfl) (by show cl + 2 + 0 ≤ 601024; omega) (by show sl + 12 + 0 ≤ 7293000; omega) (Nat.le_of_ble_eq_true rfl) hB (l_header hS (fun _ _ ws hS => ?_) (fun hn2 => absurd hg hn2) (fun _ hd2 => absurd hd hd2))
    have hL2 := back _ _ _ hS
    obtain ⟨fB2, hB2⟩ := hL2.mo
    have hlo2 := hL2.ans
    refine zo_istore (i := i_La_law) (pc := 583) d_La_law_583 (Nat.le_of_ble_eq_true rfl) ?_
    refine zo_aload_n (i := i_La_law) (pc := 585) d_La_law_585 rfl rfl ?_
    refine zc_V0 (i := i_La_law) (pc := 586) 10 rfl m_Mo_thrown (ztb_of k_956 rfl) (ztb_of k_957 rfl) (ztb_of k_958 rfl) d_La_law_586 (Nat.le_of_ble_eq_true rfl) (by show cl + 2 + 0 + 0 ≤ 601024; omega) (by show sl + 12 + 0 + 0 ≤ 7293000; omega) (Nat.le_of_ble_eq_true rfl) hB2 (l_thrown hS ?_)
    refine zo_iload (i := i_La_law) (pc := 589) d_La_law_589 rfl ?_
    refine zo_icmp_eq (i := i_La_law) (pc := 591) (tgt := 596) d_La_law_591 (by decide) (fun h591 => ?_) (fun h591 => False.elim (by first | exact absurd h591 (rfl) | exact absurd (rfl) h591))
    refine zo_iload (i := i_La_law) (pc := 596) d_La_law_596 rfl ?_
    refine zo_if_ne (i := i_La_law) (pc := 598) (tgt := 613) d_La_law_598 (by decide) (fun h598 => False.elim (by first | exact absurd h598 (rfl) | exact absurd (rfl) h598)) (fun h598 => ?_)
    refine zo_aload_n (i := i_La_law) (pc := 601) d_La_law_601 rfl rfl ?_
    refine zo_iconst (i := i_La_law) (pc := 602) (v := 0) d_La_law_602 (by decide) ?_
    refine zo_laload (i := i_La_law) (pc := 603) d_La_law_603 hlo2 (by unfold vp_in; decide) ?_
    refine zo_iload (i := i_La_law) (pc := 604) d_La_law_604 rfl ?_
    refine zo_i2l (i := i_La_law) (pc := 606) d_La_law_606 ?_
    refine zo_lcmp (i := i_La_law) (pc := 607) d_La_law_607 ?_
    refine zo_if_eq (i := i_La_law) (pc := 608) (tgt := 613) d_La_law_608 (by decide) (fun h608 => ?_) (fun h608 => False.elim (by first | exact absurd h608 ((by rw [show vp_updL fl 0 ((nI (q.2.2.2.2.2.2.2.1 + 1)).toInt64) (0 : Int32).toNatClampNeg = (nI (q.2.2.2.2.2.2.2.1 + 1)).toInt64 from rfl]; exact lg_same _)) | exact absurd ((by rw [show vp_updL fl 0 ((nI (q.2.2.2.2.2.2.2.1 + 1)).toInt64) (0 : Int32).toNatClampNeg = (nI (q.2.2.2.2.2.2.2.1 + 1)).toInt64 from rfl]; exact lg_same _)) h608))
    refine zo_goto (i := i_La_law) (pc := 613) (tgt := 1070) d_La_law_613 (by decide) ?_
    exact k _ _ _ _ _ _ _ _ (by show cl + 2 + 0 + 0 ≤ _; omega) (by show sl + 12 + 0 + 0 ≤ _; omega) hL2 ((hI_head (a := (fs (nI (5 * c + 1) + 1).toNatClampNeg)) hi hd hg.2).mono (by omega) (by omega) (by omega) (by omega))
  · have hL1 : zLaw g A B lo [] (q) (q) t fl ws := ⟨m, F, hr, hh⟩
    obtain ⟨fB, hB⟩ := hL1.mo
    have hA := hL1.host
    have hlo := hL1.ans
    obtain ⟨X, hS, back⟩ := hL1.model
    refine zo_istore (i := i_La_law) (pc := 565) d_La_law_565 (Nat.le_of_ble_eq_true rfl) ?_
    refine zo_aload_n (i := i_La_law) (pc := 567) d_La_law_567 rfl rfl ?_
    refine zo_aload_n (i := i_La_law) (pc := 568) d_La_law_568 rfl rfl ?_
    refine zo_iload (i := i_La_law) (pc := 569) d_La_law_569 rfl ?_
    refine zo_iconst (i := i_La_law) (pc := 571) (v := 1) d_La_law_571 (by decide) ?_
    refine zo_iadd (i := i_La_law) (pc := 572) d_La_law_572 ?_
    refine zs_iaload (i := i_La_law) (pc := 573) hX hlt d_La_law_573 (by rw [show nI (5 * c + 1) + 1 = nI (5 * c + 1 + 1) from nI_add _ 1]; exact vp_in_nI (by omega) (by omega)) ?_
    refine zo_aload_n (i := i_La_law) (pc := 574) d_La_law_574 rfl rfl ?_
    refine zo_iload (i := i_La_law) (pc := 575) d_La_law_575 rfl ?_
    refine zo_iconst (i := i_La_law) (pc := 577) (v := 2) d_La_law_577 (by decide) ?_
    refine zo_iadd (i := i_La_law) (pc := 578) d_La_law_578 ?_
    refine zs_iaload (i := i_La_law) (pc := 579) hX hlt d_La_law_579 (by rw [show nI (5 * c + 1) + 2 = nI (5 * c + 1 + 2) from nI_add _ 2]; exact vp_in_nI (by omega) (by omega)) ?_
    refine zc_V2 (i := i_La_law) (pc := 580) 10 rfl m_Mo_header (ztb_of k_1097 rfl) (ztb_of k_1098 rfl) (ztb_of k_1099 rfl) d_La_law_580 (Nat.le_of_ble_eq_true rfl) (by show cl + 2 + 0 ≤ 601024; omega) (by show sl + 12 + 0 ≤ 7293000; omega) (Nat.le_of_ble_eq_true rfl) hB (l_header hS (fun hg2 => absurd hg2 hg) (fun _ ws hS => ?_) (fun hg2 => absurd hg2 hg))
    have hL2 := back _ _ _ hS
    obtain ⟨fB2, hB2⟩ := hL2.mo
    have hlo2 := hL2.ans
    refine zo_istore (i := i_La_law) (pc := 583) d_La_law_583 (Nat.le_of_ble_eq_true rfl) ?_
    refine zo_aload_n (i := i_La_law) (pc := 585) d_La_law_585 rfl rfl ?_
    refine zc_V0 (i := i_La_law) (pc := 586) 10 rfl m_Mo_thrown (ztb_of k_956 rfl) (ztb_of k_957 rfl) (ztb_of k_958 rfl) d_La_law_586 (Nat.le_of_ble_eq_true rfl) (by show cl + 2 + 0 + 0 ≤ 601024; omega) (by show sl + 12 + 0 + 0 ≤ 7293000; omega) (Nat.le_of_ble_eq_true rfl) hB2 (l_thrown hS ?_)
    refine zo_iload (i := i_La_law) (pc := 589) d_La_law_589 rfl ?_
    refine zo_icmp_eq (i := i_La_law) (pc := 591) (tgt := 596) d_La_law_591 (by decide) (fun h591 => ?_) (fun h591 => False.elim (by first | exact absurd h591 (rfl) | exact absurd (rfl) h591))
    refine zo_iload (i := i_La_law) (pc := 596) d_La_law_596 rfl ?_
    refine zo_if_ne (i := i_La_law) (pc := 598) (tgt := 613) d_La_law_598 (by decide) (fun h598 => ?_) (fun h598 => False.elim (by first | exact absurd h598 ((by decide)) | exact absurd ((by decide)) h598))
    refine zo_goto (i := i_La_law) (pc := 613) (tgt := 1070) d_La_law_613 (by decide) ?_
    exact k _ _ _ _ _ _ _ _ (by show cl + 2 + 0 + 0 ≤ _; omega) (by show sl + 12 + 0 + 0 ≤ _; omega) hL2 (hi.mono (by omega) (by omega) (by omega) (by omega))
  · have hL1 : zLaw g A B lo [] (q) (q) t fl ws := ⟨m, F, hr, hh⟩
    obtain ⟨fB, hB⟩ := hL1.mo
    have hA := hL1.host
    have hlo := hL1.ans
    obtain ⟨X, hS, back⟩ := hL1.model
    refine zo_istore (i := i_La_law) (pc := 565) d_La_law_565 (Nat.le_of_ble_eq_true rfl) ?_
    refine zo_aload_n (i := i_La_law) (pc := 567) d_La_law_567 rfl rfl ?_
    refine zo_aload_n (i := i_La_law) (pc := 568) d_La_law_568 rfl rfl ?_
    refine zo_iload (i := i_La_law) (pc := 569) d_La_law_569 rfl ?_
    refine zo_iconst (i := i_La_law) (pc := 571) (v := 1) d_La_law_571 (by decide) ?_
    refine zo_iadd (i := i_La_law) (pc := 572) d_La_law_572 ?_
    refine zs_iaload (i := i_La_law) (pc := 573) hX hlt d_La_law_573 (by rw [show nI (5 * c + 1) + 1 = nI (5 * c + 1 + 1) from nI_add _ 1]; exact vp_in_nI (by omega) (by omega)) ?_
    refine zo_aload_n (i := i_La_law) (pc := 574) d_La_law_574 rfl rfl ?_
    refine zo_iload (i := i_La_law) (pc := 575) d_La_law_575 rfl ?_
    refine zo_iconst (i := i_La_law) (pc := 577) (v := 2) d_La_law_577 (by decide) ?_
    refine zo_iadd (i := i_La_law) (pc := 578) d_La_law_578 ?_
    refine zs_iaload (i := i_La_law) (pc := 579) hX hlt d_La_law_579 (by rw [show nI (5 * c + 1) + 2 = nI (5 * c + 1 + 2) from nI_add _ 2]; exact vp_in_nI (by omega) (by omega)) ?_
    refine zc_V2 (i := i_La_law) (pc := 580) 10 rfl m_Mo_header (ztb_of k_1097 rfl) (ztb_of k_1098 rfl) (ztb_of k_1099 rfl) d_La_law_580 (Nat.le_of_ble_eq_true rfl) (by show cl + 2 + 0 ≤ 601024; omega) (by show sl + 12 + 0 ≤ 7293000; omega) (Nat.le_of_ble_eq_true rfl) hB (l_header hS (fun _ hd2 => absurd hd2 hd) (fun hn2 => absurd hg hn2) (fun _ _ ws hS => ?_))
    have hL2 := back _ _ _ hS
    obtain ⟨fB2, hB2⟩ := hL2.mo
    have hlo2 := hL2.ans
    refine zo_istore (i := i_La_law) (pc := 583) d_La_law_583 (Nat.le_of_ble_eq_true rfl) ?_
    refine zo_aload_n (i := i_La_law) (pc := 585) d_La_law_585 rfl rfl ?_
    refine zc_V0 (i := i_La_law) (pc := 586) 10 rfl m_Mo_thrown (ztb_of k_956 rfl) (ztb_of k_957 rfl) (ztb_of k_958 rfl) d_La_law_586 (Nat.le_of_ble_eq_true rfl) (by show cl + 2 + 0 + 0 ≤ 601024; omega) (by show sl + 12 + 0 + 0 ≤ 7293000; omega) (Nat.le_of_ble_eq_true rfl) hB2 (l_thrown hS ?_)
    refine zo_iload (i := i_La_law) (pc := 589) d_La_law_589 rfl ?_
    refine zo_icmp_eq (i := i_La_law) (pc := 591) (tgt := 596) d_La_law_591 (by decide) (fun h591 => ?_) (fun h591 => False.elim (by first | exact absurd h591 (rfl) | exact absurd (rfl) h591))
    refine zo_iload (i := i_La_law) (pc := 596) d_La_law_596 rfl ?_
    refine zo_if_ne (i := i_La_law) (pc := 598) (tgt := 613) d_La_law_598 (by decide) (fun h598 => ?_) (fun h598 => False.elim (by first | exact absurd h598 ((by decide)) | exact absurd ((by decide)) h598))
    refine zo_goto (i := i_La_law) (pc := 613) (tgt := 1070) d_La_law_613 (by decide) ?_
    exact k _ _ _ _ _ _ _ _ (by show cl + 2 + 0 + 0 ≤ _; omega) (by show sl + 12 + 0 + 0 ≤ _; omega) hL2 (hi.mono (by omega) (by omega) (by omega) (by omega))
theorem law_come {x0 : zX} {g : zG} {A B : Nat → Nat} {lo sc n c : Nat} {fs : Nat → Int32} {q : hT} {t : Int32} {fl : Nat → Int64} {ws : va_W} {T U cl sl : Nat} {o5 o6 : Option Value} (hnt : g.1.stackTraces = false) (hX : va_X sc n fs x0.2.2.1 x0.2.2.1.heap) (hlt : sc < g.2.2.2) (hL : zLaw g A B lo [] (q) (q) t fl ws) (hi : hI q T U) (hTT : T + 100 < 1000000) (hU : U + 1100 < 2000000000) (hcl : cl + 6 ≤ 601024) (hsl : sl + 41 ≤ 7293000) (hc : 5 * c + 6 ≤ n) (hn : n < 1000000) (k : ∀ (q2 : hT) (t2 : Int32) (fl2 : Nat → Int64) (w : va_W) (p5 p6 : Option Value) (cl2 sl2 : Nat), cl2 ≤ cl + 6 → sl2 ≤ sl + 41 → zLaw g A B lo [] (q2) (q2) t2 fl2 w → hI q2 (T + 100) (U + 1100) → zW x0 g i_La_law 1070 [some (.ref sc), some (.ref (A 0)), some (.ref (B 0)), some (.ref lo), some (.int (nI (5 * c + 1))), p5, p6] [] w cl2 sl2) : zW x0 g i_La_law 616 [some (.ref sc), some (.ref (A 0)), some (.ref (B 0)), some (.ref lo), some (.int (nI (5 * c + 1))), o5, o6] [] ws cl sl := by
  obtain ⟨fB, hB⟩ := hL.mo
  have hA := hL.host
  have hlo := hL.ans
  refine zo_aload_n (i := i_La_law) (pc := 616) d_La_law_616 rfl rfl ?_
  refine zo_aload_n (i := i_La_law) (pc := 617) d_La_law_617 rfl rfl ?_
  refine zo_iload (i := i_La_law) (pc := 618) d_La_law_618 rfl ?_
  refine zo_iconst (i := i_La_law) (pc := 620) (v := 1) d_La_law_620 (by decide) ?_
  refine zo_iadd (i := i_La_law) (pc := 621) d_La_law_621 ?_
  refine zs_iaload (i := i_La_law) (pc := 622) hX hlt d_La_law_622 (by rw [show nI (5 * c + 1) + 1 = nI (5 * c + 1 + 1) from nI_add _ 1]; exact vp_in_nI (by omega) (by omega)) ?_
  refine zo_aload_n (i := i_La_law) (pc := 623) d_La_law_623 rfl rfl ?_
  refine zo_iload (i := i_La_law) (pc := 624) d_La_law_624 rfl ?_
  refine zo_iconst (i := i_La_law) (pc := 626) (v := 2) d_La_law_626 (by decide) ?_
  refine zo_iadd (i := i_La_law) (pc := 627) d_La_law_627 ?_
  refine zs_iaload (i := i_La_law) (pc := 628) hX hlt d_La_law_628 (by rw [show nI (5 * c + 1) + 2 = nI (5 * c + 1 + 2) from nI_add _ 2]; exact vp_in_nI (by omega) (by omega)) ?_
  refine zo_aload_n (i := i_La_law) (pc := 629) d_La_law_629 rfl rfl ?_
  obtain ⟨m, F, hr, hh⟩ := id hL
  refine zw_callS (i := i_La_law) (pc := 630) (av := [.ref (A 0), .int (fs (nI (5 * c + 1) + 1).toNatClampNeg), .int (fs (nI (5 * c + 1) + 2).toNatClampNeg), .ref lo]) m_La_come (ztb_of k_741 rfl) (ztb_of k_742 rfl) d_La_law_630 rfl (Nat.le_of_ble_eq_true rfl) (by show cl + 2 ≤ 601024; omega) (by show sl + 12 ≤ 7293000; omega) (Nat.le_of_ble_eq_true rfl) rfl (c_La_come hnt hh (fun hg hd ws hw => ?_) (fun hg => ?_) (fun hg hd => ?_))
  · have hL1 : zLaw g A B lo [] ((comeT q (fs (nI (5 * c + 1) + 1).toNatClampNeg) (fs (nI (5 * c + 1) + 2).toNatClampNeg)).2) (q) t (vp_updL fl 0 (((comeT q (fs (nI (5 * c + 1) + 1).toNatClampNeg) (fs (nI (5 * c + 1) + 2).toNatClampNeg)).1).toInt64)) ws := ⟨m, F, hr, hw⟩
    obtain ⟨fB, hB⟩ := hL1.mo
    have hA := hL1.host
    have hlo := hL1.ans
    obtain ⟨X, hS, back⟩ := hL1.model
    refine zo_istore (i := i_La_law) (pc := 633) d_La_law_633 (Nat.le_of_ble_eq_true rfl) ?_
    refine zo_aload_n (i := i_La_law) (pc := 635) d_La_law_635 rfl rfl ?_
    refine zo_aload_n (i := i_La_law) (pc := 636) d_La_law_636 rfl rfl ?_
    refine zo_iload (i := i_La_law) (pc := 637) d_La_law_637 rfl ?_
    refine zo_iconst (i := i_La_law) (pc := 639) (v := 1) d_La_law_639 (by decide) ?_
    refine zo_iadd (i := i_La_law) (pc := 640) d_La_law_640 ?_
    refine zs_iaload (i := i_La_law) (pc := 641) hX hlt d_La_law_641 (by rw [show nI (5 * c + 1) + 1 = nI (5 * c + 1 + 1) from nI_add _ 1]; exact vp_in_nI (by omega) (by omega)) ?_
    refine zo_aload_n (i := i_La_law) (pc := 642) d_La_law_642 rfl rfl ?_
    refine zo_iload (i := i_La_law) (pc := 643) d_La_law_643 rfl ?_
    refine zo_iconst (i := i_La_law) (pc := 645) (v := 2) d_La_law_645 (by decide) ?_
    refine zo_iadd (i := i_La_law) (pc := 646) d_La_law_646 ?_
    refine zs_iaload (i := i_La_law) (pc := 647) hX hlt d_La_law_647 (by rw [show nI (5 * c + 1) + 2 = nI (5 * c + 1 + 2) from nI_add _ 2]; exact vp_in_nI (by omega) (by omega)) ?_
    refine zc_V2 (i := i_La_law) (pc := 648) 10 rfl m_Mo_come (ztb_of k_1101 rfl) (ztb_of k_1102 rfl) (ztb_of k_1103 rfl) d_La_law_648 (Nat.le_of_ble_eq_true rfl) (by show cl + 2 + 0 ≤ 601024; omega) (by show sl + 12 + 0 ≤ 7293000; omega) (Nat.le_of_ble_eq_true rfl) hB (l_come hS hi (by omega) (fun _ _ ws hS => ?_) (fun hn2 => absurd hg hn2) (fun _ hd2 => absurd (hd.symm.trans hd2) (by decide)))
    have hL2 := back _ _ _ hS
    obtain ⟨fB2, hB2⟩ := hL2.mo
    have hlo2 := hL2.ans
    refine zo_istore (i := i_La_law) (pc := 651) d_La_law_651 (Nat.le_of_ble_eq_true rfl) ?_
    refine zo_aload_n (i := i_La_law) (pc := 653) d_La_law_653 rfl rfl ?_
    refine zc_V0 (i := i_La_law) (pc := 654) 10 rfl m_Mo_thrown (ztb_of k_956 rfl) (ztb_of k_957 rfl) (ztb_of k_958 rfl) d_La_law_654 (Nat.le_of_ble_eq_true rfl) (by show cl + 2 + 0 + 0 ≤ 601024; omega) (by show sl + 12 + 0 + 0 ≤ 7293000; omega) (Nat.le_of_ble_eq_true rfl) hB2 (l_thrown hS ?_)
    refine zo_iload (i := i_La_law) (pc := 657) d_La_law_657 rfl ?_
    refine zo_icmp_eq (i := i_La_law) (pc := 659) (tgt := 664) d_La_law_659 (by decide) (fun h659 => ?_) (fun h659 => False.elim (by first | exact absurd h659 (rfl) | exact absurd (rfl) h659))
    refine zo_iload (i := i_La_law) (pc := 664) d_La_law_664 rfl ?_
    refine zo_if_ne (i := i_La_law) (pc := 666) (tgt := 681) d_La_law_666 (by decide) (fun h666 => False.elim (by first | exact absurd h666 (rfl) | exact absurd (rfl) h666)) (fun h666 => ?_)
    refine zo_aload_n (i := i_La_law) (pc := 669) d_La_law_669 rfl rfl ?_
    refine zo_iconst (i := i_La_law) (pc := 670) (v := 0) d_La_law_670 (by decide) ?_
    refine zo_laload (i := i_La_law) (pc := 671) d_La_law_671 hlo2 (by unfold vp_in; decide) ?_
    refine zo_iload (i := i_La_law) (pc := 672) d_La_law_672 rfl ?_
    refine zo_i2l (i := i_La_law) (pc := 674) d_La_law_674 ?_
    refine zo_lcmp (i := i_La_law) (pc := 675) d_La_law_675 ?_
    refine zo_if_eq (i := i_La_law) (pc := 676) (tgt := 681) d_La_law_676 (by decide) (fun h676 => ?_) (fun h676 => False.elim (by first | exact absurd h676 ((by rw [show vp_updL fl 0 (((comeT q (fs (nI (5 * c + 1) + 1).toNatClampNeg) (fs (nI (5 * c + 1) + 2).toNatClampNeg)).1).toInt64) (0 : Int32).toNatClampNeg = ((comeT q (fs (nI (5 * c + 1) + 1).toNatClampNeg) (fs (nI (5 * c + 1) + 2).toNatClampNeg)).1).toInt64 from rfl]; exact lg_same _)) | exact absurd ((by rw [show vp_updL fl 0 (((comeT q (fs (nI (5 * c + 1) + 1).toNatClampNeg) (fs (nI (5 * c + 1) + 2).toNatClampNeg)).1).toInt64) (0 : Int32).toNatClampNeg = ((comeT q (fs (nI (5 * c + 1) + 1).toNatClampNeg) (fs (nI (5 * c + 1) + 2).toNatClampNeg)).1).toInt64 from rfl]; exact lg_same _)) h676))
    refine zo_goto (i := i_La_law) (pc := 681) (tgt := 1070) d_La_law_681 (by decide) ?_
    exact k _ _ _ _ _ _ _ _ (by show cl + 2 + 0 + 0 ≤ _; omega) (by show sl + 12 + 0 + 0 ≤ _; omega) hL2 ((hI_come (f := (fs (nI (5 * c + 1) + 1).toNatClampNeg)) (t := (fs (nI (5 * c + 1) + 2).toNatClampNeg)) hi (by omega)).mono (by omega) (by omega) (by omega) (by omega))
  · have hL1 : zLaw g A B lo [] (q) (q) t fl ws := ⟨m, F, hr, hh⟩
    obtain ⟨fB, hB⟩ := hL1.mo
    have hA := hL1.host
    have hlo := hL1.ans
    obtain ⟨X, hS, back⟩ := hL1.model
    refine zo_istore (i := i_La_law) (pc := 633) d_La_law_633 (Nat.le_of_ble_eq_true rfl) ?_
    refine zo_aload_n (i := i_La_law) (pc := 635) d_La_law_635 rfl rfl ?_
    refine zo_aload_n (i := i_La_law) (pc := 636) d_La_law_636 rfl rfl ?_
    refine zo_iload (i := i_La_law) (pc := 637) d_La_law_637 rfl ?_
    refine zo_iconst (i := i_La_law) (pc := 639) (v := 1) d_La_law_639 (by decide) ?_
    refine zo_iadd (i := i_La_law) (pc := 640) d_La_law_640 ?_
    refine zs_iaload (i := i_La_law) (pc := 641) hX hlt d_La_law_641 (by rw [show nI (5 * c + 1) + 1 = nI (5 * c + 1 + 1) from nI_add _ 1]; exact vp_in_nI (by omega) (by omega)) ?_
    refine zo_aload_n (i := i_La_law) (pc := 642) d_La_law_642 rfl rfl ?_
    refine zo_iload (i := i_La_law) (pc := 643) d_La_law_643 rfl ?_
    refine zo_iconst (i := i_La_law) (pc := 645) (v := 2) d_La_law_645 (by decide) ?_
    refine zo_iadd (i := i_La_law) (pc := 646) d_La_law_646 ?_
    refine zs_iaload (i := i_La_law) (pc := 647) hX hlt d_La_law_647 (by rw [show nI (5 * c + 1) + 2 = nI (5 * c + 1 + 2) from nI_add _ 2]; exact vp_in_nI (by omega) (by omega)) ?_
    refine zc_V2 (i := i_La_law) (pc := 648) 10 rfl m_Mo_come (ztb_of k_1101 rfl) (ztb_of k_1102 rfl) (ztb_of k_1103 rfl) d_La_law_648 (Nat.le_of_ble_eq_true rfl) (by show cl + 2 + 0 ≤ 601024; omega) (by show sl + 12 + 0 ≤ 7293000; omega) (Nat.le_of_ble_eq_true rfl) hB (l_come hS hi (by omega) (fun hg2 => absurd hg2 hg) (fun _ ws hS => ?_) (fun hg2 => absurd hg2 hg))
    have hL2 := back _ _ _ hS
    obtain ⟨fB2, hB2⟩ := hL2.mo
    have hlo2 := hL2.ans
    refine zo_istore (i := i_La_law) (pc := 651) d_La_law_651 (Nat.le_of_ble_eq_true rfl) ?_
    refine zo_aload_n (i := i_La_law) (pc := 653) d_La_law_653 rfl rfl ?_
    refine zc_V0 (i := i_La_law) (pc := 654) 10 rfl m_Mo_thrown (ztb_of k_956 rfl) (ztb_of k_957 rfl) (ztb_of k_958 rfl) d_La_law_654 (Nat.le_of_ble_eq_true rfl) (by show cl + 2 + 0 + 0 ≤ 601024; omega) (by show sl + 12 + 0 + 0 ≤ 7293000; omega) (Nat.le_of_ble_eq_true rfl) hB2 (l_thrown hS ?_)
    refine zo_iload (i := i_La_law) (pc := 657) d_La_law_657 rfl ?_
    refine zo_icmp_eq (i := i_La_law) (pc := 659) (tgt := 664) d_La_law_659 (by decide) (fun h659 => ?_) (fun h659 => False.elim (by first | exact absurd h659 (rfl) | exact absurd (rfl) h659))
    refine zo_iload (i := i_La_law) (pc := 664) d_La_law_664 rfl ?_
    refine zo_if_ne (i := i_La_law) (pc := 666) (tgt := 681) d_La_law_666 (by decide) (fun h666 => ?_) (fun h666 => False.elim (by first | exact absurd h666 ((by decide)) | exact absurd ((by decide)) h666))
    refine zo_goto (i := i_La_law) (pc := 681) (tgt := 1070) d_La_law_681 (by decide) ?_
    exact k _ _ _ _ _ _ _ _ (by show cl + 2 + 0 + 0 ≤ _; omega) (by show sl + 12 + 0 + 0 ≤ _; omega) hL2 (hi.mono (by omega) (by omega) (by omega) (by omega))
  · have hL1 : zLaw g A B lo [] (q) (q) t fl ws := ⟨m, F, hr, hh⟩
    obtain ⟨fB, hB⟩ := hL1.mo
    have hA := hL1.host
    have hlo := hL1.ans
    obtain ⟨X, hS, back⟩ := hL1.model
    refine zo_istore (i := i_La_law) (pc := 633) d_La_law_633 (Nat.le_of_ble_eq_true rfl) ?_
    refine zo_aload_n (i := i_La_law) (pc := 635) d_La_law_635 rfl rfl ?_
    refine zo_aload_n (i := i_La_law) (pc := 636) d_La_law_636 rfl rfl ?_
    refine zo_iload (i := i_La_law) (pc := 637) d_La_law_637 rfl ?_
    refine zo_iconst (i := i_La_law) (pc := 639) (v := 1) d_La_law_639 (by decide) ?_
    refine zo_iadd (i := i_La_law) (pc := 640) d_La_law_640 ?_
    refine zs_iaload (i := i_La_law) (pc := 641) hX hlt d_La_law_641 (by rw [show nI (5 * c + 1) + 1 = nI (5 * c + 1 + 1) from nI_add _ 1]; exact vp_in_nI (by omega) (by omega)) ?_
    refine zo_aload_n (i := i_La_law) (pc := 642) d_La_law_642 rfl rfl ?_
    refine zo_iload (i := i_La_law) (pc := 643) d_La_law_643 rfl ?_
    refine zo_iconst (i := i_La_law) (pc := 645) (v := 2) d_La_law_645 (by decide) ?_
    refine zo_iadd (i := i_La_law) (pc := 646) d_La_law_646 ?_
    refine zs_iaload (i := i_La_law) (pc := 647) hX hlt d_La_law_647 (by rw [show nI (5 * c + 1) + 2 = nI (5 * c + 1 + 2) from nI_add _ 2]; exact vp_in_nI (by omega) (by omega)) ?_
    refine zc_V2 (i := i_La_law) (pc := 648) 10 rfl m_Mo_come (ztb_of k_1101 rfl) (ztb_of k_1102 rfl) (ztb_of k_1103 rfl) d_La_law_648 (Nat.le_of_ble_eq_true rfl) (by show cl + 2 + 0 ≤ 601024; omega) (by show sl + 12 + 0 ≤ 7293000; omega) (Nat.le_of_ble_eq_true rfl) hB (l_come hS hi (by omega) (fun _ hd2 => absurd (hd.symm.trans hd2) (by decide)) (fun hn2 => absurd hg hn2) (fun _ _ ws hS => ?_))
    have hL2 := back _ _ _ hS
    obtain ⟨fB2, hB2⟩ := hL2.mo
    have hlo2 := hL2.ans
    refine zo_istore (i := i_La_law) (pc := 651) d_La_law_651 (Nat.le_of_ble_eq_true rfl) ?_
    refine zo_aload_n (i := i_La_law) (pc := 653) d_La_law_653 rfl rfl ?_
    refine zc_V0 (i := i_La_law) (pc := 654) 10 rfl m_Mo_thrown (ztb_of k_956 rfl) (ztb_of k_957 rfl) (ztb_of k_958 rfl) d_La_law_654 (Nat.le_of_ble_eq_true rfl) (by show cl + 2 + 0 + 0 ≤ 601024; omega) (by show sl + 12 + 0 + 0 ≤ 7293000; omega) (Nat.le_of_ble_eq_true rfl) hB2 (l_thrown hS ?_)
    refine zo_iload (i := i_La_law) (pc := 657) d_La_law_657 rfl ?_
    refine zo_icmp_eq (i := i_La_law) (pc := 659) (tgt := 664) d_La_law_659 (by decide) (fun h659 => ?_) (fun h659 => False.elim (by first | exact absurd h659 (rfl) | exact absurd (rfl) h659))
    refine zo_iload (i := i_La_law) (pc := 664) d_La_law_664 rfl ?_
    refine zo_if_ne (i := i_La_law) (pc := 666) (tgt := 681) d_La_law_666 (by decide) (fun h666 => ?_) (fun h666 => False.elim (by first | exact absurd h666 ((by decide)) | exact absurd ((by decide)) h666))
    refine zo_goto (i := i_La_law) (pc := 681) (tgt := 1070) d_La_law_681 (by decide) ?_
    exact k _ _ _ _ _ _ _ _ (by show cl + 2 + 0 + 0 ≤ _; omega) (by show sl + 12 + 0 + 0 ≤ _; omega) hL2 (hi.mono (by omega) (by omega) (by omega) (by omega))
theorem law_count {x0 : zX} {g : zG} {A B : Nat → Nat} {lo sc n c : Nat} {fs : Nat → Int32} {q : hT} {t : Int32} {fl : Nat → Int64} {ws : va_W} {T U cl sl : Nat} {o5 o6 : Option Value} (hnt : g.1.stackTraces = false) (hX : va_X sc n fs x0.2.2.1 x0.2.2.1.heap) (hlt : sc < g.2.2.2) (hL : zLaw g A B lo [] (q) (q) t fl ws) (hi : hI q T U) (hTT : T + 100 < 1000000) (hU : U + 1100 < 2000000000) (hcl : cl + 6 ≤ 601024) (hsl : sl + 41 ≤ 7293000) (hc : 5 * c + 6 ≤ n) (hn : n < 1000000) (k : ∀ (q2 : hT) (t2 : Int32) (fl2 : Nat → Int64) (w : va_W) (p5 p6 : Option Value) (cl2 sl2 : Nat), cl2 ≤ cl + 6 → sl2 ≤ sl + 41 → zLaw g A B lo [] (q2) (q2) t2 fl2 w → hI q2 (T + 100) (U + 1100) → zW x0 g i_La_law 1070 [some (.ref sc), some (.ref (A 0)), some (.ref (B 0)), some (.ref lo), some (.int (nI (5 * c + 1))), p5, p6] [] w cl2 sl2) : zW x0 g i_La_law 684 [some (.ref sc), some (.ref (A 0)), some (.ref (B 0)), some (.ref lo), some (.int (nI (5 * c + 1))), o5, o6] [] ws cl sl := by
  obtain ⟨fB, hB⟩ := hL.mo
  have hA := hL.host
  have hlo := hL.ans
  refine zo_aload_n (i := i_La_law) (pc := 684) d_La_law_684 rfl rfl ?_
  refine zo_aload_n (i := i_La_law) (pc := 685) d_La_law_685 rfl rfl ?_
  refine zo_iload (i := i_La_law) (pc := 686) d_La_law_686 rfl ?_
  refine zo_iconst (i := i_La_law) (pc := 688) (v := 1) d_La_law_688 (by decide) ?_
  refine zo_iadd (i := i_La_law) (pc := 689) d_La_law_689 ?_
  refine zs_iaload (i := i_La_law) (pc := 690) hX hlt d_La_law_690 (by rw [show nI (5 * c + 1) + 1 = nI (5 * c + 1 + 1) from nI_add _ 1]; exact vp_in_nI (by omega) (by omega)) ?_
  refine zo_aload_n (i := i_La_law) (pc := 691) d_La_law_691 rfl rfl ?_
  obtain ⟨m, F, hr, hh⟩ := id hL
  refine zw_callS (i := i_La_law) (pc := 692) (av := [.ref (A 0), .int (fs (nI (5 * c + 1) + 1).toNatClampNeg), .ref lo]) m_La_count (ztb_of k_768 rfl) (ztb_of k_769 rfl) d_La_law_692 rfl (Nat.le_of_ble_eq_true rfl) (by show cl + 1 ≤ 601024; omega) (by show sl + 6 ≤ 7293000; omega) (Nat.le_of_ble_eq_true rfl) rfl (c_La_count hnt hh (fun hg ws hw => ?_) (fun hg => ?_))
  · have hL1 : zLaw g A B lo [] (q) (q) t (vp_updL fl 0 ((cntT q (fs (nI (5 * c + 1) + 1).toNatClampNeg)).toInt64)) ws := ⟨m, F, hr, hw⟩
    obtain ⟨fB, hB⟩ := hL1.mo
    have hA := hL1.host
    have hlo := hL1.ans
    obtain ⟨X, hS, back⟩ := hL1.model
    refine zo_istore (i := i_La_law) (pc := 695) d_La_law_695 (Nat.le_of_ble_eq_true rfl) ?_
    refine zo_aload_n (i := i_La_law) (pc := 697) d_La_law_697 rfl rfl ?_
    refine zo_aload_n (i := i_La_law) (pc := 698) d_La_law_698 rfl rfl ?_
    refine zo_iload (i := i_La_law) (pc := 699) d_La_law_699 rfl ?_
    refine zo_iconst (i := i_La_law) (pc := 701) (v := 1) d_La_law_701 (by decide) ?_
    refine zo_iadd (i := i_La_law) (pc := 702) d_La_law_702 ?_
    refine zs_iaload (i := i_La_law) (pc := 703) hX hlt d_La_law_703 (by rw [show nI (5 * c + 1) + 1 = nI (5 * c + 1 + 1) from nI_add _ 1]; exact vp_in_nI (by omega) (by omega)) ?_
    refine zc_V1 (i := i_La_law) (pc := 704) 10 rfl m_Mo_count (ztb_of k_1113 rfl) (ztb_of k_1114 rfl) (ztb_of k_1115 rfl) d_La_law_704 (Nat.le_of_ble_eq_true rfl) (by show cl + 1 + 0 ≤ 601024; omega) (by show sl + 6 + 0 ≤ 7293000; omega) (Nat.le_of_ble_eq_true rfl) hB (l_count hS (by have := hU_le hi; omega) (fun _ ws hS => ?_) (fun hn2 => absurd hg hn2))
    have hL2 := back _ _ _ hS
    obtain ⟨fB2, hB2⟩ := hL2.mo
    have hlo2 := hL2.ans
    refine zo_istore (i := i_La_law) (pc := 707) d_La_law_707 (Nat.le_of_ble_eq_true rfl) ?_
    refine zo_aload_n (i := i_La_law) (pc := 709) d_La_law_709 rfl rfl ?_
    refine zc_V0 (i := i_La_law) (pc := 710) 10 rfl m_Mo_thrown (ztb_of k_956 rfl) (ztb_of k_957 rfl) (ztb_of k_958 rfl) d_La_law_710 (Nat.le_of_ble_eq_true rfl) (by show cl + 1 + 0 + 0 ≤ 601024; omega) (by show sl + 6 + 0 + 0 ≤ 7293000; omega) (Nat.le_of_ble_eq_true rfl) hB2 (l_thrown hS ?_)
    refine zo_iload (i := i_La_law) (pc := 713) d_La_law_713 rfl ?_
    refine zo_icmp_eq (i := i_La_law) (pc := 715) (tgt := 720) d_La_law_715 (by decide) (fun h715 => ?_) (fun h715 => False.elim (by first | exact absurd h715 (rfl) | exact absurd (rfl) h715))
    refine zo_iload (i := i_La_law) (pc := 720) d_La_law_720 rfl ?_
    refine zo_if_ne (i := i_La_law) (pc := 722) (tgt := 737) d_La_law_722 (by decide) (fun h722 => False.elim (by first | exact absurd h722 (rfl) | exact absurd (rfl) h722)) (fun h722 => ?_)
    refine zo_aload_n (i := i_La_law) (pc := 725) d_La_law_725 rfl rfl ?_
    refine zo_iconst (i := i_La_law) (pc := 726) (v := 0) d_La_law_726 (by decide) ?_
    refine zo_laload (i := i_La_law) (pc := 727) d_La_law_727 hlo2 (by unfold vp_in; decide) ?_
    refine zo_iload (i := i_La_law) (pc := 728) d_La_law_728 rfl ?_
    refine zo_i2l (i := i_La_law) (pc := 730) d_La_law_730 ?_
    refine zo_lcmp (i := i_La_law) (pc := 731) d_La_law_731 ?_
    refine zo_if_eq (i := i_La_law) (pc := 732) (tgt := 737) d_La_law_732 (by decide) (fun h732 => ?_) (fun h732 => False.elim (by first | exact absurd h732 ((by rw [show vp_updL fl 0 ((cntT q (fs (nI (5 * c + 1) + 1).toNatClampNeg)).toInt64) (0 : Int32).toNatClampNeg = (cntT q (fs (nI (5 * c + 1) + 1).toNatClampNeg)).toInt64 from rfl]; exact lg_same _)) | exact absurd ((by rw [show vp_updL fl 0 ((cntT q (fs (nI (5 * c + 1) + 1).toNatClampNeg)).toInt64) (0 : Int32).toNatClampNeg = (cntT q (fs (nI (5 * c + 1) + 1).toNatClampNeg)).toInt64 from rfl]; exact lg_same _)) h732))
    refine zo_goto (i := i_La_law) (pc := 737) (tgt := 1070) d_La_law_737 (by decide) ?_
    exact k _ _ _ _ _ _ _ _ (by show cl + 1 + 0 + 0 ≤ _; omega) (by show sl + 6 + 0 + 0 ≤ _; omega) hL2 (hi.mono (by omega) (by omega) (by omega) (by omega))
  · have hL1 : zLaw g A B lo [] (q) (q) t fl ws := ⟨m, F, hr, hh⟩
    obtain ⟨fB, hB⟩ := hL1.mo
    have hA := hL1.host
    have hlo := hL1.ans
    obtain ⟨X, hS, back⟩ := hL1.model
    refine zo_istore (i := i_La_law) (pc := 695) d_La_law_695 (Nat.le_of_ble_eq_true rfl) ?_
    refine zo_aload_n (i := i_La_law) (pc := 697) d_La_law_697 rfl rfl ?_
    refine zo_aload_n (i := i_La_law) (pc := 698) d_La_law_698 rfl rfl ?_
    refine zo_iload (i := i_La_law) (pc := 699) d_La_law_699 rfl ?_
    refine zo_iconst (i := i_La_law) (pc := 701) (v := 1) d_La_law_701 (by decide) ?_
    refine zo_iadd (i := i_La_law) (pc := 702) d_La_law_702 ?_
    refine zs_iaload (i := i_La_law) (pc := 703) hX hlt d_La_law_703 (by rw [show nI (5 * c + 1) + 1 = nI (5 * c + 1 + 1) from nI_add _ 1]; exact vp_in_nI (by omega) (by omega)) ?_
    refine zc_V1 (i := i_La_law) (pc := 704) 10 rfl m_Mo_count (ztb_of k_1113 rfl) (ztb_of k_1114 rfl) (ztb_of k_1115 rfl) d_La_law_704 (Nat.le_of_ble_eq_true rfl) (by show cl + 1 + 0 ≤ 601024; omega) (by show sl + 6 + 0 ≤ 7293000; omega) (Nat.le_of_ble_eq_true rfl) hB (l_count hS (by have := hU_le hi; omega) (fun hg2 => absurd hg2 hg) (fun _ ws hS => ?_))
    have hL2 := back _ _ _ hS
    obtain ⟨fB2, hB2⟩ := hL2.mo
    have hlo2 := hL2.ans
    refine zo_istore (i := i_La_law) (pc := 707) d_La_law_707 (Nat.le_of_ble_eq_true rfl) ?_
    refine zo_aload_n (i := i_La_law) (pc := 709) d_La_law_709 rfl rfl ?_
    refine zc_V0 (i := i_La_law) (pc := 710) 10 rfl m_Mo_thrown (ztb_of k_956 rfl) (ztb_of k_957 rfl) (ztb_of k_958 rfl) d_La_law_710 (Nat.le_of_ble_eq_true rfl) (by show cl + 1 + 0 + 0 ≤ 601024; omega) (by show sl + 6 + 0 + 0 ≤ 7293000; omega) (Nat.le_of_ble_eq_true rfl) hB2 (l_thrown hS ?_)
    refine zo_iload (i := i_La_law) (pc := 713) d_La_law_713 rfl ?_
    refine zo_icmp_eq (i := i_La_law) (pc := 715) (tgt := 720) d_La_law_715 (by decide) (fun h715 => ?_) (fun h715 => False.elim (by first | exact absurd h715 (rfl) | exact absurd (rfl) h715))
    refine zo_iload (i := i_La_law) (pc := 720) d_La_law_720 rfl ?_
    refine zo_if_ne (i := i_La_law) (pc := 722) (tgt := 737) d_La_law_722 (by decide) (fun h722 => ?_) (fun h722 => False.elim (by first | exact absurd h722 ((by decide)) | exact absurd ((by decide)) h722))
    refine zo_goto (i := i_La_law) (pc := 737) (tgt := 1070) d_La_law_737 (by decide) ?_
    exact k _ _ _ _ _ _ _ _ (by show cl + 1 + 0 + 0 ≤ _; omega) (by show sl + 6 + 0 + 0 ≤ _; omega) hL2 (hi.mono (by omega) (by omega) (by omega) (by omega))
theorem law_own {x0 : zX} {g : zG} {A B : Nat → Nat} {lo sc n c : Nat} {fs : Nat → Int32} {q : hT} {t : Int32} {fl : Nat → Int64} {ws : va_W} {T U cl sl : Nat} {o5 o6 : Option Value} (hnt : g.1.stackTraces = false) (hX : va_X sc n fs x0.2.2.1 x0.2.2.1.heap) (hlt : sc < g.2.2.2) (hL : zLaw g A B lo [] (q) (q) t fl ws) (hi : hI q T U) (hTT : T + 100 < 1000000) (hU : U + 1100 < 2000000000) (hcl : cl + 6 ≤ 601024) (hsl : sl + 41 ≤ 7293000) (hc : 5 * c + 6 ≤ n) (hn : n < 1000000) (k : ∀ (q2 : hT) (t2 : Int32) (fl2 : Nat → Int64) (w : va_W) (p5 p6 : Option Value) (cl2 sl2 : Nat), cl2 ≤ cl + 6 → sl2 ≤ sl + 41 → zLaw g A B lo [] (q2) (q2) t2 fl2 w → hI q2 (T + 100) (U + 1100) → zW x0 g i_La_law 1070 [some (.ref sc), some (.ref (A 0)), some (.ref (B 0)), some (.ref lo), some (.int (nI (5 * c + 1))), p5, p6] [] w cl2 sl2) : zW x0 g i_La_law 740 [some (.ref sc), some (.ref (A 0)), some (.ref (B 0)), some (.ref lo), some (.int (nI (5 * c + 1))), o5, o6] [] ws cl sl := by
  obtain ⟨fB, hB⟩ := hL.mo
  have hA := hL.host
  have hlo := hL.ans
  refine zo_aload_n (i := i_La_law) (pc := 740) d_La_law_740 rfl rfl ?_
  refine zo_aload_n (i := i_La_law) (pc := 741) d_La_law_741 rfl rfl ?_
  refine zo_iload (i := i_La_law) (pc := 742) d_La_law_742 rfl ?_
  refine zo_iconst (i := i_La_law) (pc := 744) (v := 1) d_La_law_744 (by decide) ?_
  refine zo_iadd (i := i_La_law) (pc := 745) d_La_law_745 ?_
  refine zs_iaload (i := i_La_law) (pc := 746) hX hlt d_La_law_746 (by rw [show nI (5 * c + 1) + 1 = nI (5 * c + 1 + 1) from nI_add _ 1]; exact vp_in_nI (by omega) (by omega)) ?_
  refine zo_aload_n (i := i_La_law) (pc := 747) d_La_law_747 rfl rfl ?_
  obtain ⟨m, F, hr, hh⟩ := id hL
  refine zw_callS (i := i_La_law) (pc := 748) (av := [.ref (A 0), .int (fs (nI (5 * c + 1) + 1).toNatClampNeg), .ref lo]) m_La_own (ztb_of k_775 rfl) (ztb_of k_776 rfl) d_La_law_748 rfl (Nat.le_of_ble_eq_true rfl) (by show cl + 1 ≤ 601024; omega) (by show sl + 6 ≤ 7293000; omega) (Nat.le_of_ble_eq_true rfl) rfl (c_La_own hnt hh (fun c2 x2 hj hx ws hw => ?_) (fun hg => ?_))
  · have hL1 : zLaw g A B lo [] (q) (q) t (vp_updL fl 0 ((x2.1 + 65536 * x2.2.2.1).toInt64)) ws := ⟨m, F, hr, hw⟩
    obtain ⟨fB, hB⟩ := hL1.mo
    have hA := hL1.host
    have hlo := hL1.ans
    obtain ⟨X, hS, back⟩ := hL1.model
    refine zo_istore (i := i_La_law) (pc := 751) d_La_law_751 (Nat.le_of_ble_eq_true rfl) ?_
    refine zo_aload_n (i := i_La_law) (pc := 753) d_La_law_753 rfl rfl ?_
    refine zo_aload_n (i := i_La_law) (pc := 754) d_La_law_754 rfl rfl ?_
    refine zo_iload (i := i_La_law) (pc := 755) d_La_law_755 rfl ?_
    refine zo_iconst (i := i_La_law) (pc := 757) (v := 1) d_La_law_757 (by decide) ?_
    refine zo_iadd (i := i_La_law) (pc := 758) d_La_law_758 ?_
    refine zs_iaload (i := i_La_law) (pc := 759) hX hlt d_La_law_759 (by rw [show nI (5 * c + 1) + 1 = nI (5 * c + 1 + 1) from nI_add _ 1]; exact vp_in_nI (by omega) (by omega)) ?_
    refine zc_V1 (i := i_La_law) (pc := 760) 10 rfl m_Mo_own (ztb_of k_1117 rfl) (ztb_of k_1118 rfl) (ztb_of k_1119 rfl) d_La_law_760 (Nat.le_of_ble_eq_true rfl) (by show cl + 1 + 0 ≤ 601024; omega) (by show sl + 6 + 0 ≤ 7293000; omega) (Nat.le_of_ble_eq_true rfl) hB (l_own hS (fun c3 x3 hj3 hx3 ws hS => ?_) (fun hn2 => absurd (show ¬ (fs (nI (5 * c + 1) + 1).toNatClampNeg) < 0 ∧ (fs (nI (5 * c + 1) + 1).toNatClampNeg) < nI q.2.2.1.length from by rw [hj]; exact ⟨nI_pos (by have := hL.len5; have := len_of hx; omega), nI_lt (len_of hx) (by have := hL.len5; omega)⟩) hn2))
    obtain rfl : c2 = c3 := (nI_eq (by have := hL.len5; have := len_of hx; omega) (by have := hL.len5; have := len_of hx3; omega)).mp (hj.symm.trans hj3)
    obtain rfl : x2 = x3 := Option.some.inj (hx.symm.trans hx3)
    have hL2 := back _ _ _ hS
    obtain ⟨fB2, hB2⟩ := hL2.mo
    have hlo2 := hL2.ans
    refine zo_istore (i := i_La_law) (pc := 763) d_La_law_763 (Nat.le_of_ble_eq_true rfl) ?_
    refine zo_aload_n (i := i_La_law) (pc := 765) d_La_law_765 rfl rfl ?_
    refine zc_V0 (i := i_La_law) (pc := 766) 10 rfl m_Mo_thrown (ztb_of k_956 rfl) (ztb_of k_957 rfl) (ztb_of k_958 rfl) d_La_law_766 (Nat.le_of_ble_eq_true rfl) (by show cl + 1 + 0 + 0 ≤ 601024; omega) (by show sl + 6 + 0 + 0 ≤ 7293000; omega) (Nat.le_of_ble_eq_true rfl) hB2 (l_thrown hS ?_)
    refine zo_iload (i := i_La_law) (pc := 769) d_La_law_769 rfl ?_
    refine zo_icmp_eq (i := i_La_law) (pc := 771) (tgt := 776) d_La_law_771 (by decide) (fun h771 => ?_) (fun h771 => False.elim (by first | exact absurd h771 (rfl) | exact absurd (rfl) h771))
    refine zo_iload (i := i_La_law) (pc := 776) d_La_law_776 rfl ?_
    refine zo_if_ne (i := i_La_law) (pc := 778) (tgt := 793) d_La_law_778 (by decide) (fun h778 => False.elim (by first | exact absurd h778 (rfl) | exact absurd (rfl) h778)) (fun h778 => ?_)
    refine zo_aload_n (i := i_La_law) (pc := 781) d_La_law_781 rfl rfl ?_
    refine zo_iconst (i := i_La_law) (pc := 782) (v := 0) d_La_law_782 (by decide) ?_
    refine zo_laload (i := i_La_law) (pc := 783) d_La_law_783 hlo2 (by unfold vp_in; decide) ?_
    refine zo_iload (i := i_La_law) (pc := 784) d_La_law_784 rfl ?_
    refine zo_i2l (i := i_La_law) (pc := 786) d_La_law_786 ?_
    refine zo_lcmp (i := i_La_law) (pc := 787) d_La_law_787 ?_
    refine zo_if_eq (i := i_La_law) (pc := 788) (tgt := 793) d_La_law_788 (by decide) (fun h788 => ?_) (fun h788 => False.elim (by first | exact absurd h788 ((by rw [show vp_updL fl 0 ((x2.1 + 65536 * x2.2.2.1).toInt64) (0 : Int32).toNatClampNeg = (x2.1 + 65536 * x2.2.2.1).toInt64 from rfl]; exact lg_same _)) | exact absurd ((by rw [show vp_updL fl 0 ((x2.1 + 65536 * x2.2.2.1).toInt64) (0 : Int32).toNatClampNeg = (x2.1 + 65536 * x2.2.2.1).toInt64 from rfl]; exact lg_same _)) h788))
    refine zo_goto (i := i_La_law) (pc := 793) (tgt := 1070) d_La_law_793 (by decide) ?_
    exact k _ _ _ _ _ _ _ _ (by show cl + 1 + 0 + 0 ≤ _; omega) (by show sl + 6 + 0 + 0 ≤ _; omega) hL2 (hi.mono (by omega) (by omega) (by omega) (by omega))
  · have hL1 : zLaw g A B lo [] (q) (q) t fl ws := ⟨m, F, hr, hh⟩
    obtain ⟨fB, hB⟩ := hL1.mo
    have hA := hL1.host
    have hlo := hL1.ans
    obtain ⟨X, hS, back⟩ := hL1.model
    refine zo_istore (i := i_La_law) (pc := 751) d_La_law_751 (Nat.le_of_ble_eq_true rfl) ?_
    refine zo_aload_n (i := i_La_law) (pc := 753) d_La_law_753 rfl rfl ?_
    refine zo_aload_n (i := i_La_law) (pc := 754) d_La_law_754 rfl rfl ?_
    refine zo_iload (i := i_La_law) (pc := 755) d_La_law_755 rfl ?_
    refine zo_iconst (i := i_La_law) (pc := 757) (v := 1) d_La_law_757 (by decide) ?_
    refine zo_iadd (i := i_La_law) (pc := 758) d_La_law_758 ?_
    refine zs_iaload (i := i_La_law) (pc := 759) hX hlt d_La_law_759 (by rw [show nI (5 * c + 1) + 1 = nI (5 * c + 1 + 1) from nI_add _ 1]; exact vp_in_nI (by omega) (by omega)) ?_
    refine zc_V1 (i := i_La_law) (pc := 760) 10 rfl m_Mo_own (ztb_of k_1117 rfl) (ztb_of k_1118 rfl) (ztb_of k_1119 rfl) d_La_law_760 (Nat.le_of_ble_eq_true rfl) (by show cl + 1 + 0 ≤ 601024; omega) (by show sl + 6 + 0 ≤ 7293000; omega) (Nat.le_of_ble_eq_true rfl) hB (l_own hS (fun c3 x3 hj hx => absurd (show ¬ (fs (nI (5 * c + 1) + 1).toNatClampNeg) < 0 ∧ (fs (nI (5 * c + 1) + 1).toNatClampNeg) < nI q.2.2.1.length from by rw [hj]; exact ⟨nI_pos (by have := hL.len5; have := len_of hx; omega), nI_lt (len_of hx) (by have := hL.len5; omega)⟩) hg) (fun _ ws hS => ?_))
    have hL2 := back _ _ _ hS
    obtain ⟨fB2, hB2⟩ := hL2.mo
    have hlo2 := hL2.ans
    refine zo_istore (i := i_La_law) (pc := 763) d_La_law_763 (Nat.le_of_ble_eq_true rfl) ?_
    refine zo_aload_n (i := i_La_law) (pc := 765) d_La_law_765 rfl rfl ?_
    refine zc_V0 (i := i_La_law) (pc := 766) 10 rfl m_Mo_thrown (ztb_of k_956 rfl) (ztb_of k_957 rfl) (ztb_of k_958 rfl) d_La_law_766 (Nat.le_of_ble_eq_true rfl) (by show cl + 1 + 0 + 0 ≤ 601024; omega) (by show sl + 6 + 0 + 0 ≤ 7293000; omega) (Nat.le_of_ble_eq_true rfl) hB2 (l_thrown hS ?_)
    refine zo_iload (i := i_La_law) (pc := 769) d_La_law_769 rfl ?_
    refine zo_icmp_eq (i := i_La_law) (pc := 771) (tgt := 776) d_La_law_771 (by decide) (fun h771 => ?_) (fun h771 => False.elim (by first | exact absurd h771 (rfl) | exact absurd (rfl) h771))
    refine zo_iload (i := i_La_law) (pc := 776) d_La_law_776 rfl ?_
    refine zo_if_ne (i := i_La_law) (pc := 778) (tgt := 793) d_La_law_778 (by decide) (fun h778 => ?_) (fun h778 => False.elim (by first | exact absurd h778 ((by decide)) | exact absurd ((by decide)) h778))
    refine zo_goto (i := i_La_law) (pc := 793) (tgt := 1070) d_La_law_793 (by decide) ?_
    exact k _ _ _ _ _ _ _ _ (by show cl + 1 + 0 + 0 ≤ _; omega) (by show sl + 6 + 0 + 0 ≤ _; omega) hL2 (hi.mono (by omega) (by omega) (by omega) (by omega))
theorem law_until {x0 : zX} {g : zG} {A B : Nat → Nat} {lo sc n c : Nat} {fs : Nat → Int32} {q : hT} {t : Int32} {fl : Nat → Int64} {ws : va_W} {T U cl sl : Nat} {o5 o6 : Option Value} (hnt : g.1.stackTraces = false) (hX : va_X sc n fs x0.2.2.1 x0.2.2.1.heap) (hlt : sc < g.2.2.2) (hL : zLaw g A B lo [] (q) (q) t fl ws) (hi : hI q T U) (hTT : T + 100 < 1000000) (hU : U + 1100 < 2000000000) (hcl : cl + 6 ≤ 601024) (hsl : sl + 41 ≤ 7293000) (hc : 5 * c + 6 ≤ n) (hn : n < 1000000) (k : ∀ (q2 : hT) (t2 : Int32) (fl2 : Nat → Int64) (w : va_W) (p5 p6 : Option Value) (cl2 sl2 : Nat), cl2 ≤ cl + 6 → sl2 ≤ sl + 41 → zLaw g A B lo [] (q2) (q2) t2 fl2 w → hI q2 (T + 100) (U + 1100) → zW x0 g i_La_law 1070 [some (.ref sc), some (.ref (A 0)), some (.ref (B 0)), some (.ref lo), some (.int (nI (5 * c + 1))), p5, p6] [] w cl2 sl2) : zW x0 g i_La_law 796 [some (.ref sc), some (.ref (A 0)), some (.ref (B 0)), some (.ref lo), some (.int (nI (5 * c + 1))), o5, o6] [] ws cl sl := by
  obtain ⟨fB, hB⟩ := hL.mo
  have hA := hL.host
  have hlo := hL.ans
  refine zo_aload_n (i := i_La_law) (pc := 796) d_La_law_796 rfl rfl ?_
  refine zo_aload_n (i := i_La_law) (pc := 797) d_La_law_797 rfl rfl ?_
  refine zo_iload (i := i_La_law) (pc := 798) d_La_law_798 rfl ?_
  refine zo_iconst (i := i_La_law) (pc := 800) (v := 1) d_La_law_800 (by decide) ?_
  refine zo_iadd (i := i_La_law) (pc := 801) d_La_law_801 ?_
  refine zs_iaload (i := i_La_law) (pc := 802) hX hlt d_La_law_802 (by rw [show nI (5 * c + 1) + 1 = nI (5 * c + 1 + 1) from nI_add _ 1]; exact vp_in_nI (by omega) (by omega)) ?_
  refine zo_aload_n (i := i_La_law) (pc := 803) d_La_law_803 rfl rfl ?_
  obtain ⟨m, F, hr, hh⟩ := id hL
  refine zw_callS (i := i_La_law) (pc := 804) (av := [.ref (A 0), .int (fs (nI (5 * c + 1) + 1).toNatClampNeg), .ref lo]) m_La_until (ztb_of k_803 rfl) (ztb_of k_804 rfl) d_La_law_804 rfl (Nat.le_of_ble_eq_true rfl) (by show cl + 1 ≤ 601024; omega) (by show sl + 6 ≤ 7293000; omega) (Nat.le_of_ble_eq_true rfl) rfl (c_La_until hnt hh (fun c2 x2 hj hx ws hw => ?_) (fun hg => ?_))
  · have hL1 : zLaw g A B lo [] (q) (q) t (vp_updL fl 0 ((if x2.2.2.2.1 = 2147483647 then -1 else x2.2.2.2.1).toInt64)) ws := ⟨m, F, hr, hw⟩
    obtain ⟨fB, hB⟩ := hL1.mo
    have hA := hL1.host
    have hlo := hL1.ans
    obtain ⟨X, hS, back⟩ := hL1.model
    refine zo_istore (i := i_La_law) (pc := 807) d_La_law_807 (Nat.le_of_ble_eq_true rfl) ?_
    refine zo_aload_n (i := i_La_law) (pc := 809) d_La_law_809 rfl rfl ?_
    refine zo_aload_n (i := i_La_law) (pc := 810) d_La_law_810 rfl rfl ?_
    refine zo_iload (i := i_La_law) (pc := 811) d_La_law_811 rfl ?_
    refine zo_iconst (i := i_La_law) (pc := 813) (v := 1) d_La_law_813 (by decide) ?_
    refine zo_iadd (i := i_La_law) (pc := 814) d_La_law_814 ?_
    refine zs_iaload (i := i_La_law) (pc := 815) hX hlt d_La_law_815 (by rw [show nI (5 * c + 1) + 1 = nI (5 * c + 1 + 1) from nI_add _ 1]; exact vp_in_nI (by omega) (by omega)) ?_
    refine zc_V1 (i := i_La_law) (pc := 816) 10 rfl m_Mo_until (ztb_of k_1125 rfl) (ztb_of k_1126 rfl) (ztb_of k_1127 rfl) d_La_law_816 (Nat.le_of_ble_eq_true rfl) (by show cl + 1 + 0 ≤ 601024; omega) (by show sl + 6 + 0 ≤ 7293000; omega) (Nat.le_of_ble_eq_true rfl) hB (l_until hS (fun x hx => by obtain ⟨c9, _, _, _, _, _, _, _, h8, _⟩ := hi; exact (h8 x hx).1) (fun c3 x3 hj3 hx3 ws hS => ?_) (fun hn2 => absurd (show ¬ (fs (nI (5 * c + 1) + 1).toNatClampNeg) < 0 ∧ (fs (nI (5 * c + 1) + 1).toNatClampNeg) < nI q.2.2.1.length from by rw [hj]; exact ⟨nI_pos (by have := hL.len5; have := len_of hx; omega), nI_lt (len_of hx) (by have := hL.len5; omega)⟩) hn2))
    obtain rfl : c2 = c3 := (nI_eq (by have := hL.len5; have := len_of hx; omega) (by have := hL.len5; have := len_of hx3; omega)).mp (hj.symm.trans hj3)
    obtain rfl : x2 = x3 := Option.some.inj (hx.symm.trans hx3)
    have hL2 := back _ _ _ hS
    obtain ⟨fB2, hB2⟩ := hL2.mo
    have hlo2 := hL2.ans
    refine zo_istore (i := i_La_law) (pc := 819) d_La_law_819 (Nat.le_of_ble_eq_true rfl) ?_
    refine zo_aload_n (i := i_La_law) (pc := 821) d_La_law_821 rfl rfl ?_
    refine zc_V0 (i := i_La_law) (pc := 822) 10 rfl m_Mo_thrown (ztb_of k_956 rfl) (ztb_of k_957 rfl) (ztb_of k_958 rfl) d_La_law_822 (Nat.le_of_ble_eq_true rfl) (by show cl + 1 + 0 + 0 ≤ 601024; omega) (by show sl + 6 + 0 + 0 ≤ 7293000; omega) (Nat.le_of_ble_eq_true rfl) hB2 (l_thrown hS ?_)
    refine zo_iload (i := i_La_law) (pc := 825) d_La_law_825 rfl ?_
    refine zo_icmp_eq (i := i_La_law) (pc := 827) (tgt := 832) d_La_law_827 (by decide) (fun h827 => ?_) (fun h827 => False.elim (by first | exact absurd h827 (rfl) | exact absurd (rfl) h827))
    refine zo_iload (i := i_La_law) (pc := 832) d_La_law_832 rfl ?_
    refine zo_if_ne (i := i_La_law) (pc := 834) (tgt := 849) d_La_law_834 (by decide) (fun h834 => False.elim (by first | exact absurd h834 (rfl) | exact absurd (rfl) h834)) (fun h834 => ?_)
    refine zo_aload_n (i := i_La_law) (pc := 837) d_La_law_837 rfl rfl ?_
    refine zo_iconst (i := i_La_law) (pc := 838) (v := 0) d_La_law_838 (by decide) ?_
    refine zo_laload (i := i_La_law) (pc := 839) d_La_law_839 hlo2 (by unfold vp_in; decide) ?_
    refine zo_iload (i := i_La_law) (pc := 840) d_La_law_840 rfl ?_
    refine zo_i2l (i := i_La_law) (pc := 842) d_La_law_842 ?_
    refine zo_lcmp (i := i_La_law) (pc := 843) d_La_law_843 ?_
    refine zo_if_eq (i := i_La_law) (pc := 844) (tgt := 849) d_La_law_844 (by decide) (fun h844 => ?_) (fun h844 => False.elim (by first | exact absurd h844 ((by rw [show vp_updL fl 0 ((if x2.2.2.2.1 = 2147483647 then -1 else x2.2.2.2.1).toInt64) (0 : Int32).toNatClampNeg = (if x2.2.2.2.1 = 2147483647 then -1 else x2.2.2.2.1).toInt64 from rfl]; exact lg_same _)) | exact absurd ((by rw [show vp_updL fl 0 ((if x2.2.2.2.1 = 2147483647 then -1 else x2.2.2.2.1).toInt64) (0 : Int32).toNatClampNeg = (if x2.2.2.2.1 = 2147483647 then -1 else x2.2.2.2.1).toInt64 from rfl]; exact lg_same _)) h844))
    refine zo_goto (i := i_La_law) (pc := 849) (tgt := 1070) d_La_law_849 (by decide) ?_
    exact k _ _ _ _ _ _ _ _ (by show cl + 1 + 0 + 0 ≤ _; omega) (by show sl + 6 + 0 + 0 ≤ _; omega) hL2 (hi.mono (by omega) (by omega) (by omega) (by omega))
  · have hL1 : zLaw g A B lo [] (q) (q) t fl ws := ⟨m, F, hr, hh⟩
    obtain ⟨fB, hB⟩ := hL1.mo
    have hA := hL1.host
    have hlo := hL1.ans
    obtain ⟨X, hS, back⟩ := hL1.model
    refine zo_istore (i := i_La_law) (pc := 807) d_La_law_807 (Nat.le_of_ble_eq_true rfl) ?_
    refine zo_aload_n (i := i_La_law) (pc := 809) d_La_law_809 rfl rfl ?_
    refine zo_aload_n (i := i_La_law) (pc := 810) d_La_law_810 rfl rfl ?_
    refine zo_iload (i := i_La_law) (pc := 811) d_La_law_811 rfl ?_
    refine zo_iconst (i := i_La_law) (pc := 813) (v := 1) d_La_law_813 (by decide) ?_
    refine zo_iadd (i := i_La_law) (pc := 814) d_La_law_814 ?_
    refine zs_iaload (i := i_La_law) (pc := 815) hX hlt d_La_law_815 (by rw [show nI (5 * c + 1) + 1 = nI (5 * c + 1 + 1) from nI_add _ 1]; exact vp_in_nI (by omega) (by omega)) ?_
    refine zc_V1 (i := i_La_law) (pc := 816) 10 rfl m_Mo_until (ztb_of k_1125 rfl) (ztb_of k_1126 rfl) (ztb_of k_1127 rfl) d_La_law_816 (Nat.le_of_ble_eq_true rfl) (by show cl + 1 + 0 ≤ 601024; omega) (by show sl + 6 + 0 ≤ 7293000; omega) (Nat.le_of_ble_eq_true rfl) hB (l_until hS (fun x hx => by obtain ⟨c9, _, _, _, _, _, _, _, h8, _⟩ := hi; exact (h8 x hx).1) (fun c3 x3 hj hx => absurd (show ¬ (fs (nI (5 * c + 1) + 1).toNatClampNeg) < 0 ∧ (fs (nI (5 * c + 1) + 1).toNatClampNeg) < nI q.2.2.1.length from by rw [hj]; exact ⟨nI_pos (by have := hL.len5; have := len_of hx; omega), nI_lt (len_of hx) (by have := hL.len5; omega)⟩) hg) (fun _ ws hS => ?_))
    have hL2 := back _ _ _ hS
    obtain ⟨fB2, hB2⟩ := hL2.mo
    have hlo2 := hL2.ans
    refine zo_istore (i := i_La_law) (pc := 819) d_La_law_819 (Nat.le_of_ble_eq_true rfl) ?_
    refine zo_aload_n (i := i_La_law) (pc := 821) d_La_law_821 rfl rfl ?_
    refine zc_V0 (i := i_La_law) (pc := 822) 10 rfl m_Mo_thrown (ztb_of k_956 rfl) (ztb_of k_957 rfl) (ztb_of k_958 rfl) d_La_law_822 (Nat.le_of_ble_eq_true rfl) (by show cl + 1 + 0 + 0 ≤ 601024; omega) (by show sl + 6 + 0 + 0 ≤ 7293000; omega) (Nat.le_of_ble_eq_true rfl) hB2 (l_thrown hS ?_)
    refine zo_iload (i := i_La_law) (pc := 825) d_La_law_825 rfl ?_
    refine zo_icmp_eq (i := i_La_law) (pc := 827) (tgt := 832) d_La_law_827 (by decide) (fun h827 => ?_) (fun h827 => False.elim (by first | exact absurd h827 (rfl) | exact absurd (rfl) h827))
    refine zo_iload (i := i_La_law) (pc := 832) d_La_law_832 rfl ?_
    refine zo_if_ne (i := i_La_law) (pc := 834) (tgt := 849) d_La_law_834 (by decide) (fun h834 => ?_) (fun h834 => False.elim (by first | exact absurd h834 ((by decide)) | exact absurd ((by decide)) h834))
    refine zo_goto (i := i_La_law) (pc := 849) (tgt := 1070) d_La_law_849 (by decide) ?_
    exact k _ _ _ _ _ _ _ _ (by show cl + 1 + 0 + 0 ≤ _; omega) (by show sl + 6 + 0 + 0 ≤ _; omega) hL2 (hi.mono (by omega) (by omega) (by omega) (by omega))
theorem law_outKind {x0 : zX} {g : zG} {A B : Nat → Nat} {lo sc n c : Nat} {fs : Nat → Int32} {q : hT} {t : Int32} {fl : Nat → Int64} {ws : va_W} {T U cl sl : Nat} {o5 o6 : Option Value} (hnt : g.1.stackTraces = false) (hX : va_X sc n fs x0.2.2.1 x0.2.2.1.heap) (hlt : sc < g.2.2.2) (hL : zLaw g A B lo [] (q) (q) t fl ws) (hi : hI q T U) (hTT : T + 100 < 1000000) (hU : U + 1100 < 2000000000) (hcl : cl + 6 ≤ 601024) (hsl : sl + 41 ≤ 7293000) (hc : 5 * c + 6 ≤ n) (hn : n < 1000000) (k : ∀ (q2 : hT) (t2 : Int32) (fl2 : Nat → Int64) (w : va_W) (p5 p6 : Option Value) (cl2 sl2 : Nat), cl2 ≤ cl + 6 → sl2 ≤ sl + 41 → zLaw g A B lo [] (q2) (q2) t2 fl2 w → hI q2 (T + 100) (U + 1100) → zW x0 g i_La_law 1070 [some (.ref sc), some (.ref (A 0)), some (.ref (B 0)), some (.ref lo), some (.int (nI (5 * c + 1))), p5, p6] [] w cl2 sl2) : zW x0 g i_La_law 902 [some (.ref sc), some (.ref (A 0)), some (.ref (B 0)), some (.ref lo), some (.int (nI (5 * c + 1))), o5, o6] [] ws cl sl := by
  obtain ⟨fB, hB⟩ := hL.mo
  have hA := hL.host
  have hlo := hL.ans
  refine zo_aload_n (i := i_La_law) (pc := 902) d_La_law_902 rfl rfl ?_
  refine zo_aload_n (i := i_La_law) (pc := 903) d_La_law_903 rfl rfl ?_
  refine zo_iload (i := i_La_law) (pc := 904) d_La_law_904 rfl ?_
  refine zo_iconst (i := i_La_law) (pc := 906) (v := 1) d_La_law_906 (by decide) ?_
  refine zo_iadd (i := i_La_law) (pc := 907) d_La_law_907 ?_
  refine zs_iaload (i := i_La_law) (pc := 908) hX hlt d_La_law_908 (by rw [show nI (5 * c + 1) + 1 = nI (5 * c + 1 + 1) from nI_add _ 1]; exact vp_in_nI (by omega) (by omega)) ?_
  refine zo_aload_n (i := i_La_law) (pc := 909) d_La_law_909 rfl rfl ?_
  obtain ⟨m, F, hr, hh⟩ := id hL
  refine zw_callS (i := i_La_law) (pc := 910) (av := [.ref (A 0), .int (fs (nI (5 * c + 1) + 1).toNatClampNeg), .ref lo]) m_La_outKind (ztb_of k_810 rfl) (ztb_of k_811 rfl) d_La_law_910 rfl (Nat.le_of_ble_eq_true rfl) (by show cl + 1 ≤ 601024; omega) (by show sl + 6 ≤ 7293000; omega) (Nat.le_of_ble_eq_true rfl) rfl (c_La_outKind hnt hh (fun c2 hj hlt2 ws hw => ?_) (fun hg => ?_))
  · have hL1 : zLaw g A B lo [] (q) (q) t (vp_updL fl 0 ((q.2.1.2.1 ((q.2.1.1 % 12 + 23 - c2) % 12)).toInt64)) ws := ⟨m, F, hr, hw⟩
    obtain ⟨fB, hB⟩ := hL1.mo
    have hA := hL1.host
    have hlo := hL1.ans
    obtain ⟨X, hS, back⟩ := hL1.model
    refine zo_istore (i := i_La_law) (pc := 913) d_La_law_913 (Nat.le_of_ble_eq_true rfl) ?_
    refine zo_aload_n (i := i_La_law) (pc := 915) d_La_law_915 rfl rfl ?_
    refine zo_aload_n (i := i_La_law) (pc := 916) d_La_law_916 rfl rfl ?_
    refine zo_iload (i := i_La_law) (pc := 917) d_La_law_917 rfl ?_
    refine zo_iconst (i := i_La_law) (pc := 919) (v := 1) d_La_law_919 (by decide) ?_
    refine zo_iadd (i := i_La_law) (pc := 920) d_La_law_920 ?_
    refine zs_iaload (i := i_La_law) (pc := 921) hX hlt d_La_law_921 (by rw [show nI (5 * c + 1) + 1 = nI (5 * c + 1 + 1) from nI_add _ 1]; exact vp_in_nI (by omega) (by omega)) ?_
    refine zc_V1 (i := i_La_law) (pc := 922) 10 rfl m_Mo_outKind (ztb_of k_1137 rfl) (ztb_of k_1138 rfl) (ztb_of k_1139 rfl) d_La_law_922 (Nat.le_of_ble_eq_true rfl) (by show cl + 1 + 0 ≤ 601024; omega) (by show sl + 6 + 0 ≤ 7293000; omega) (Nat.le_of_ble_eq_true rfl) hB (l_outKind hS (by have := hU_le hi; omega) (fun c3 hj3 hlt3 ws hS => ?_) (fun hn2 => absurd (show ¬ (fs (nI (5 * c + 1) + 1).toNatClampNeg) < 0 ∧ (fs (nI (5 * c + 1) + 1).toNatClampNeg) < nI (min q.2.1.1 12) from by rw [hj]; exact ⟨nI_pos (by omega), nI_lt hlt2 (by omega)⟩) hn2))
    obtain rfl : c2 = c3 := (nI_eq (by omega) (by omega)).mp (hj.symm.trans hj3)
    have hL2 := back _ _ _ hS
    obtain ⟨fB2, hB2⟩ := hL2.mo
    have hlo2 := hL2.ans
    refine zo_istore (i := i_La_law) (pc := 925) d_La_law_925 (Nat.le_of_ble_eq_true rfl) ?_
    refine zo_aload_n (i := i_La_law) (pc := 927) d_La_law_927 rfl rfl ?_
    refine zc_V0 (i := i_La_law) (pc := 928) 10 rfl m_Mo_thrown (ztb_of k_956 rfl) (ztb_of k_957 rfl) (ztb_of k_958 rfl) d_La_law_928 (Nat.le_of_ble_eq_true rfl) (by show cl + 1 + 0 + 0 ≤ 601024; omega) (by show sl + 6 + 0 + 0 ≤ 7293000; omega) (Nat.le_of_ble_eq_true rfl) hB2 (l_thrown hS ?_)
    refine zo_iload (i := i_La_law) (pc := 931) d_La_law_931 rfl ?_
    refine zo_icmp_eq (i := i_La_law) (pc := 933) (tgt := 938) d_La_law_933 (by decide) (fun h933 => ?_) (fun h933 => False.elim (by first | exact absurd h933 (rfl) | exact absurd (rfl) h933))
    refine zo_iload (i := i_La_law) (pc := 938) d_La_law_938 rfl ?_
    refine zo_if_ne (i := i_La_law) (pc := 940) (tgt := 955) d_La_law_940 (by decide) (fun h940 => False.elim (by first | exact absurd h940 (rfl) | exact absurd (rfl) h940)) (fun h940 => ?_)
    refine zo_aload_n (i := i_La_law) (pc := 943) d_La_law_943 rfl rfl ?_
    refine zo_iconst (i := i_La_law) (pc := 944) (v := 0) d_La_law_944 (by decide) ?_
    refine zo_laload (i := i_La_law) (pc := 945) d_La_law_945 hlo2 (by unfold vp_in; decide) ?_
    refine zo_iload (i := i_La_law) (pc := 946) d_La_law_946 rfl ?_
    refine zo_i2l (i := i_La_law) (pc := 948) d_La_law_948 ?_
    refine zo_lcmp (i := i_La_law) (pc := 949) d_La_law_949 ?_
    refine zo_if_eq (i := i_La_law) (pc := 950) (tgt := 955) d_La_law_950 (by decide) (fun h950 => ?_) (fun h950 => False.elim (by first | exact absurd h950 ((by rw [show vp_updL fl 0 ((q.2.1.2.1 ((q.2.1.1 % 12 + 23 - c2) % 12)).toInt64) (0 : Int32).toNatClampNeg = (q.2.1.2.1 ((q.2.1.1 % 12 + 23 - c2) % 12)).toInt64 from rfl]; exact lg_same _)) | exact absurd ((by rw [show vp_updL fl 0 ((q.2.1.2.1 ((q.2.1.1 % 12 + 23 - c2) % 12)).toInt64) (0 : Int32).toNatClampNeg = (q.2.1.2.1 ((q.2.1.1 % 12 + 23 - c2) % 12)).toInt64 from rfl]; exact lg_same _)) h950))
    refine zo_goto (i := i_La_law) (pc := 955) (tgt := 1070) d_La_law_955 (by decide) ?_
    exact k _ _ _ _ _ _ _ _ (by show cl + 1 + 0 + 0 ≤ _; omega) (by show sl + 6 + 0 + 0 ≤ _; omega) hL2 (hi.mono (by omega) (by omega) (by omega) (by omega))
  · have hL1 : zLaw g A B lo [] (q) (q) t fl ws := ⟨m, F, hr, hh⟩
    obtain ⟨fB, hB⟩ := hL1.mo
    have hA := hL1.host
    have hlo := hL1.ans
    obtain ⟨X, hS, back⟩ := hL1.model
    refine zo_istore (i := i_La_law) (pc := 913) d_La_law_913 (Nat.le_of_ble_eq_true rfl) ?_
    refine zo_aload_n (i := i_La_law) (pc := 915) d_La_law_915 rfl rfl ?_
    refine zo_aload_n (i := i_La_law) (pc := 916) d_La_law_916 rfl rfl ?_
    refine zo_iload (i := i_La_law) (pc := 917) d_La_law_917 rfl ?_
    refine zo_iconst (i := i_La_law) (pc := 919) (v := 1) d_La_law_919 (by decide) ?_
    refine zo_iadd (i := i_La_law) (pc := 920) d_La_law_920 ?_
    refine zs_iaload (i := i_La_law) (pc := 921) hX hlt d_La_law_921 (by rw [show nI (5 * c + 1) + 1 = nI (5 * c + 1 + 1) from nI_add _ 1]; exact vp_in_nI (by omega) (by omega)) ?_
    refine zc_V1 (i := i_La_law) (pc := 922) 10 rfl m_Mo_outKind (ztb_of k_1137 rfl) (ztb_of k_1138 rfl) (ztb_of k_1139 rfl) d_La_law_922 (Nat.le_of_ble_eq_true rfl) (by show cl + 1 + 0 ≤ 601024; omega) (by show sl + 6 + 0 ≤ 7293000; omega) (Nat.le_of_ble_eq_true rfl) hB (l_outKind hS (by have := hU_le hi; omega) (fun c3 hj hlt2 => absurd (show ¬ (fs (nI (5 * c + 1) + 1).toNatClampNeg) < 0 ∧ (fs (nI (5 * c + 1) + 1).toNatClampNeg) < nI (min q.2.1.1 12) from by rw [hj]; exact ⟨nI_pos (by omega), nI_lt hlt2 (by omega)⟩) hg) (fun _ ws hS => ?_))
    have hL2 := back _ _ _ hS
    obtain ⟨fB2, hB2⟩ := hL2.mo
    have hlo2 := hL2.ans
    refine zo_istore (i := i_La_law) (pc := 925) d_La_law_925 (Nat.le_of_ble_eq_true rfl) ?_
    refine zo_aload_n (i := i_La_law) (pc := 927) d_La_law_927 rfl rfl ?_
    refine zc_V0 (i := i_La_law) (pc := 928) 10 rfl m_Mo_thrown (ztb_of k_956 rfl) (ztb_of k_957 rfl) (ztb_of k_958 rfl) d_La_law_928 (Nat.le_of_ble_eq_true rfl) (by show cl + 1 + 0 + 0 ≤ 601024; omega) (by show sl + 6 + 0 + 0 ≤ 7293000; omega) (Nat.le_of_ble_eq_true rfl) hB2 (l_thrown hS ?_)
    refine zo_iload (i := i_La_law) (pc := 931) d_La_law_931 rfl ?_
    refine zo_icmp_eq (i := i_La_law) (pc := 933) (tgt := 938) d_La_law_933 (by decide) (fun h933 => ?_) (fun h933 => False.elim (by first | exact absurd h933 (rfl) | exact absurd (rfl) h933))
    refine zo_iload (i := i_La_law) (pc := 938) d_La_law_938 rfl ?_
    refine zo_if_ne (i := i_La_law) (pc := 940) (tgt := 955) d_La_law_940 (by decide) (fun h940 => ?_) (fun h940 => False.elim (by first | exact absurd h940 ((by decide)) | exact absurd ((by decide)) h940))
    refine zo_goto (i := i_La_law) (pc := 955) (tgt := 1070) d_La_law_955 (by decide) ?_
    exact k _ _ _ _ _ _ _ _ (by show cl + 1 + 0 + 0 ≤ _; omega) (by show sl + 6 + 0 + 0 ≤ _; omega) hL2 (hi.mono (by omega) (by omega) (by omega) (by omega))
theorem law_outTo {x0 : zX} {g : zG} {A B : Nat → Nat} {lo sc n c : Nat} {fs : Nat → Int32} {q : hT} {t : Int32} {fl : Nat → Int64} {ws : va_W} {T U cl sl : Nat} {o5 o6 : Option Value} (hnt : g.1.stackTraces = false) (hX : va_X sc n fs x0.2.2.1 x0.2.2.1.heap) (hlt : sc < g.2.2.2) (hL : zLaw g A B lo [] (q) (q) t fl ws) (hi : hI q T U) (hTT : T + 100 < 1000000) (hU : U + 1100 < 2000000000) (hcl : cl + 6 ≤ 601024) (hsl : sl + 41 ≤ 7293000) (hc : 5 * c + 6 ≤ n) (hn : n < 1000000) (k : ∀ (q2 : hT) (t2 : Int32) (fl2 : Nat → Int64) (w : va_W) (p5 p6 : Option Value) (cl2 sl2 : Nat), cl2 ≤ cl + 6 → sl2 ≤ sl + 41 → zLaw g A B lo [] (q2) (q2) t2 fl2 w → hI q2 (T + 100) (U + 1100) → zW x0 g i_La_law 1070 [some (.ref sc), some (.ref (A 0)), some (.ref (B 0)), some (.ref lo), some (.int (nI (5 * c + 1))), p5, p6] [] w cl2 sl2) : zW x0 g i_La_law 958 [some (.ref sc), some (.ref (A 0)), some (.ref (B 0)), some (.ref lo), some (.int (nI (5 * c + 1))), o5, o6] [] ws cl sl := by
  obtain ⟨fB, hB⟩ := hL.mo
  have hA := hL.host
  have hlo := hL.ans
  refine zo_aload_n (i := i_La_law) (pc := 958) d_La_law_958 rfl rfl ?_
  refine zo_aload_n (i := i_La_law) (pc := 959) d_La_law_959 rfl rfl ?_
  refine zo_iload (i := i_La_law) (pc := 960) d_La_law_960 rfl ?_
  refine zo_iconst (i := i_La_law) (pc := 962) (v := 1) d_La_law_962 (by decide) ?_
  refine zo_iadd (i := i_La_law) (pc := 963) d_La_law_963 ?_
  refine zs_iaload (i := i_La_law) (pc := 964) hX hlt d_La_law_964 (by rw [show nI (5 * c + 1) + 1 = nI (5 * c + 1 + 1) from nI_add _ 1]; exact vp_in_nI (by omega) (by omega)) ?_
  refine zo_aload_n (i := i_La_law) (pc := 965) d_La_law_965 rfl rfl ?_
  obtain ⟨m, F, hr, hh⟩ := id hL
  refine zw_callS (i := i_La_law) (pc := 966) (av := [.ref (A 0), .int (fs (nI (5 * c + 1) + 1).toNatClampNeg), .ref lo]) m_La_outTo (ztb_of k_824 rfl) (ztb_of k_825 rfl) d_La_law_966 rfl (Nat.le_of_ble_eq_true rfl) (by show cl + 1 ≤ 601024; omega) (by show sl + 6 ≤ 7293000; omega) (Nat.le_of_ble_eq_true rfl) rfl (c_La_outTo hnt hh (fun c2 hj hlt2 ws hw => ?_) (fun hg => ?_))
  · have hL1 : zLaw g A B lo [] (q) (q) t (vp_updL fl 0 ((q.2.1.2.2.1 ((q.2.1.1 % 12 + 23 - c2) % 12)).toInt64)) ws := ⟨m, F, hr, hw⟩
    obtain ⟨fB, hB⟩ := hL1.mo
    have hA := hL1.host
    have hlo := hL1.ans
    obtain ⟨X, hS, back⟩ := hL1.model
    refine zo_istore (i := i_La_law) (pc := 969) d_La_law_969 (Nat.le_of_ble_eq_true rfl) ?_
    refine zo_aload_n (i := i_La_law) (pc := 971) d_La_law_971 rfl rfl ?_
    refine zo_aload_n (i := i_La_law) (pc := 972) d_La_law_972 rfl rfl ?_
    refine zo_iload (i := i_La_law) (pc := 973) d_La_law_973 rfl ?_
    refine zo_iconst (i := i_La_law) (pc := 975) (v := 1) d_La_law_975 (by decide) ?_
    refine zo_iadd (i := i_La_law) (pc := 976) d_La_law_976 ?_
    refine zs_iaload (i := i_La_law) (pc := 977) hX hlt d_La_law_977 (by rw [show nI (5 * c + 1) + 1 = nI (5 * c + 1 + 1) from nI_add _ 1]; exact vp_in_nI (by omega) (by omega)) ?_
    refine zc_V1 (i := i_La_law) (pc := 978) 10 rfl m_Mo_outTo (ztb_of k_1149 rfl) (ztb_of k_1150 rfl) (ztb_of k_1151 rfl) d_La_law_978 (Nat.le_of_ble_eq_true rfl) (by show cl + 1 + 0 ≤ 601024; omega) (by show sl + 6 + 0 ≤ 7293000; omega) (Nat.le_of_ble_eq_true rfl) hB (l_outTo hS (by have := hU_le hi; omega) (fun c3 hj3 hlt3 ws hS => ?_) (fun hn2 => absurd (show ¬ (fs (nI (5 * c + 1) + 1).toNatClampNeg) < 0 ∧ (fs (nI (5 * c + 1) + 1).toNatClampNeg) < nI (min q.2.1.1 12) from by rw [hj]; exact ⟨nI_pos (by omega), nI_lt hlt2 (by omega)⟩) hn2))
    obtain rfl : c2 = c3 := (nI_eq (by omega) (by omega)).mp (hj.symm.trans hj3)
    have hL2 := back _ _ _ hS
    obtain ⟨fB2, hB2⟩ := hL2.mo
    have hlo2 := hL2.ans
    refine zo_istore (i := i_La_law) (pc := 981) d_La_law_981 (Nat.le_of_ble_eq_true rfl) ?_
    refine zo_aload_n (i := i_La_law) (pc := 983) d_La_law_983 rfl rfl ?_
    refine zc_V0 (i := i_La_law) (pc := 984) 10 rfl m_Mo_thrown (ztb_of k_956 rfl) (ztb_of k_957 rfl) (ztb_of k_958 rfl) d_La_law_984 (Nat.le_of_ble_eq_true rfl) (by show cl + 1 + 0 + 0 ≤ 601024; omega) (by show sl + 6 + 0 + 0 ≤ 7293000; omega) (Nat.le_of_ble_eq_true rfl) hB2 (l_thrown hS ?_)
    refine zo_iload (i := i_La_law) (pc := 987) d_La_law_987 rfl ?_
    refine zo_icmp_eq (i := i_La_law) (pc := 989) (tgt := 994) d_La_law_989 (by decide) (fun h989 => ?_) (fun h989 => False.elim (by first | exact absurd h989 (rfl) | exact absurd (rfl) h989))
    refine zo_iload (i := i_La_law) (pc := 994) d_La_law_994 rfl ?_
    refine zo_if_ne (i := i_La_law) (pc := 996) (tgt := 1011) d_La_law_996 (by decide) (fun h996 => False.elim (by first | exact absurd h996 (rfl) | exact absurd (rfl) h996)) (fun h996 => ?_)
    refine zo_aload_n (i := i_La_law) (pc := 999) d_La_law_999 rfl rfl ?_
    refine zo_iconst (i := i_La_law) (pc := 1000) (v := 0) d_La_law_1000 (by decide) ?_
    refine zo_laload (i := i_La_law) (pc := 1001) d_La_law_1001 hlo2 (by unfold vp_in; decide) ?_
    refine zo_iload (i := i_La_law) (pc := 1002) d_La_law_1002 rfl ?_
    refine zo_i2l (i := i_La_law) (pc := 1004) d_La_law_1004 ?_
    refine zo_lcmp (i := i_La_law) (pc := 1005) d_La_law_1005 ?_
    refine zo_if_eq (i := i_La_law) (pc := 1006) (tgt := 1011) d_La_law_1006 (by decide) (fun h1006 => ?_) (fun h1006 => False.elim (by first | exact absurd h1006 ((by rw [show vp_updL fl 0 ((q.2.1.2.2.1 ((q.2.1.1 % 12 + 23 - c2) % 12)).toInt64) (0 : Int32).toNatClampNeg = (q.2.1.2.2.1 ((q.2.1.1 % 12 + 23 - c2) % 12)).toInt64 from rfl]; exact lg_same _)) | exact absurd ((by rw [show vp_updL fl 0 ((q.2.1.2.2.1 ((q.2.1.1 % 12 + 23 - c2) % 12)).toInt64) (0 : Int32).toNatClampNeg = (q.2.1.2.2.1 ((q.2.1.1 % 12 + 23 - c2) % 12)).toInt64 from rfl]; exact lg_same _)) h1006))
    refine zo_goto (i := i_La_law) (pc := 1011) (tgt := 1070) d_La_law_1011 (by decide) ?_
    exact k _ _ _ _ _ _ _ _ (by show cl + 1 + 0 + 0 ≤ _; omega) (by show sl + 6 + 0 + 0 ≤ _; omega) hL2 (hi.mono (by omega) (by omega) (by omega) (by omega))
  · have hL1 : zLaw g A B lo [] (q) (q) t fl ws := ⟨m, F, hr, hh⟩
    obtain ⟨fB, hB⟩ := hL1.mo
    have hA := hL1.host
    have hlo := hL1.ans
    obtain ⟨X, hS, back⟩ := hL1.model
    refine zo_istore (i := i_La_law) (pc := 969) d_La_law_969 (Nat.le_of_ble_eq_true rfl) ?_
    refine zo_aload_n (i := i_La_law) (pc := 971) d_La_law_971 rfl rfl ?_
    refine zo_aload_n (i := i_La_law) (pc := 972) d_La_law_972 rfl rfl ?_
    refine zo_iload (i := i_La_law) (pc := 973) d_La_law_973 rfl ?_
    refine zo_iconst (i := i_La_law) (pc := 975) (v := 1) d_La_law_975 (by decide) ?_
    refine zo_iadd (i := i_La_law) (pc := 976) d_La_law_976 ?_
    refine zs_iaload (i := i_La_law) (pc := 977) hX hlt d_La_law_977 (by rw [show nI (5 * c + 1) + 1 = nI (5 * c + 1 + 1) from nI_add _ 1]; exact vp_in_nI (by omega) (by omega)) ?_
    refine zc_V1 (i := i_La_law) (pc := 978) 10 rfl m_Mo_outTo (ztb_of k_1149 rfl) (ztb_of k_1150 rfl) (ztb_of k_1151 rfl) d_La_law_978 (Nat.le_of_ble_eq_true rfl) (by show cl + 1 + 0 ≤ 601024; omega) (by show sl + 6 + 0 ≤ 7293000; omega) (Nat.le_of_ble_eq_true rfl) hB (l_outTo hS (by have := hU_le hi; omega) (fun c3 hj hlt2 => absurd (show ¬ (fs (nI (5 * c + 1) + 1).toNatClampNeg) < 0 ∧ (fs (nI (5 * c + 1) + 1).toNatClampNeg) < nI (min q.2.1.1 12) from by rw [hj]; exact ⟨nI_pos (by omega), nI_lt hlt2 (by omega)⟩) hg) (fun _ ws hS => ?_))
    have hL2 := back _ _ _ hS
    obtain ⟨fB2, hB2⟩ := hL2.mo
    have hlo2 := hL2.ans
    refine zo_istore (i := i_La_law) (pc := 981) d_La_law_981 (Nat.le_of_ble_eq_true rfl) ?_
    refine zo_aload_n (i := i_La_law) (pc := 983) d_La_law_983 rfl rfl ?_
    refine zc_V0 (i := i_La_law) (pc := 984) 10 rfl m_Mo_thrown (ztb_of k_956 rfl) (ztb_of k_957 rfl) (ztb_of k_958 rfl) d_La_law_984 (Nat.le_of_ble_eq_true rfl) (by show cl + 1 + 0 + 0 ≤ 601024; omega) (by show sl + 6 + 0 + 0 ≤ 7293000; omega) (Nat.le_of_ble_eq_true rfl) hB2 (l_thrown hS ?_)
    refine zo_iload (i := i_La_law) (pc := 987) d_La_law_987 rfl ?_
    refine zo_icmp_eq (i := i_La_law) (pc := 989) (tgt := 994) d_La_law_989 (by decide) (fun h989 => ?_) (fun h989 => False.elim (by first | exact absurd h989 (rfl) | exact absurd (rfl) h989))
    refine zo_iload (i := i_La_law) (pc := 994) d_La_law_994 rfl ?_
    refine zo_if_ne (i := i_La_law) (pc := 996) (tgt := 1011) d_La_law_996 (by decide) (fun h996 => ?_) (fun h996 => False.elim (by first | exact absurd h996 ((by decide)) | exact absurd ((by decide)) h996))
    refine zo_goto (i := i_La_law) (pc := 1011) (tgt := 1070) d_La_law_1011 (by decide) ?_
    exact k _ _ _ _ _ _ _ _ (by show cl + 1 + 0 + 0 ≤ _; omega) (by show sl + 6 + 0 + 0 ≤ _; omega) hL2 (hi.mono (by omega) (by omega) (by omega) (by omega))
theorem law_outX {x0 : zX} {g : zG} {A B : Nat → Nat} {lo sc n c : Nat} {fs : Nat → Int32} {q : hT} {t : Int32} {fl : Nat → Int64} {ws : va_W} {T U cl sl : Nat} {o5 o6 : Option Value} (hnt : g.1.stackTraces = false) (hX : va_X sc n fs x0.2.2.1 x0.2.2.1.heap) (hlt : sc < g.2.2.2) (hL : zLaw g A B lo [] (q) (q) t fl ws) (hi : hI q T U) (hTT : T + 100 < 1000000) (hU : U + 1100 < 2000000000) (hcl : cl + 6 ≤ 601024) (hsl : sl + 41 ≤ 7293000) (hc : 5 * c + 6 ≤ n) (hn : n < 1000000) (k : ∀ (q2 : hT) (t2 : Int32) (fl2 : Nat → Int64) (w : va_W) (p5 p6 : Option Value) (cl2 sl2 : Nat), cl2 ≤ cl + 6 → sl2 ≤ sl + 41 → zLaw g A B lo [] (q2) (q2) t2 fl2 w → hI q2 (T + 100) (U + 1100) → zW x0 g i_La_law 1070 [some (.ref sc), some (.ref (A 0)), some (.ref (B 0)), some (.ref lo), some (.int (nI (5 * c + 1))), p5, p6] [] w cl2 sl2) : zW x0 g i_La_law 1014 [some (.ref sc), some (.ref (A 0)), some (.ref (B 0)), some (.ref lo), some (.int (nI (5 * c + 1))), o5, o6] [] ws cl sl := by
  obtain ⟨fB, hB⟩ := hL.mo
  have hA := hL.host
  have hlo := hL.ans
  refine zo_aload_n (i := i_La_law) (pc := 1014) d_La_law_1014 rfl rfl ?_
  refine zo_aload_n (i := i_La_law) (pc := 1015) d_La_law_1015 rfl rfl ?_
  refine zo_iload (i := i_La_law) (pc := 1016) d_La_law_1016 rfl ?_
  refine zo_iconst (i := i_La_law) (pc := 1018) (v := 1) d_La_law_1018 (by decide) ?_
  refine zo_iadd (i := i_La_law) (pc := 1019) d_La_law_1019 ?_
  refine zs_iaload (i := i_La_law) (pc := 1020) hX hlt d_La_law_1020 (by rw [show nI (5 * c + 1) + 1 = nI (5 * c + 1 + 1) from nI_add _ 1]; exact vp_in_nI (by omega) (by omega)) ?_
  refine zo_aload_n (i := i_La_law) (pc := 1021) d_La_law_1021 rfl rfl ?_
  obtain ⟨m, F, hr, hh⟩ := id hL
  refine zw_callS (i := i_La_law) (pc := 1022) (av := [.ref (A 0), .int (fs (nI (5 * c + 1) + 1).toNatClampNeg), .ref lo]) m_La_outX (ztb_of k_831 rfl) (ztb_of k_832 rfl) d_La_law_1022 rfl (Nat.le_of_ble_eq_true rfl) (by show cl + 1 ≤ 601024; omega) (by show sl + 6 ≤ 7293000; omega) (Nat.le_of_ble_eq_true rfl) rfl (c_La_outX hnt hh (fun c2 hj hlt2 ws hw => ?_) (fun hg => ?_))
  · have hL1 : zLaw g A B lo [] (q) (q) t (vp_updL fl 0 ((q.2.1.2.2.2 ((q.2.1.1 % 12 + 23 - c2) % 12)).toInt64)) ws := ⟨m, F, hr, hw⟩
    obtain ⟨fB, hB⟩ := hL1.mo
    have hA := hL1.host
    have hlo := hL1.ans
    obtain ⟨X, hS, back⟩ := hL1.model
    refine zo_istore (i := i_La_law) (pc := 1025) d_La_law_1025 (Nat.le_of_ble_eq_true rfl) ?_
    refine zo_aload_n (i := i_La_law) (pc := 1027) d_La_law_1027 rfl rfl ?_
    refine zo_aload_n (i := i_La_law) (pc := 1028) d_La_law_1028 rfl rfl ?_
    refine zo_iload (i := i_La_law) (pc := 1029) d_La_law_1029 rfl ?_
    refine zo_iconst (i := i_La_law) (pc := 1031) (v := 1) d_La_law_1031 (by decide) ?_
    refine zo_iadd (i := i_La_law) (pc := 1032) d_La_law_1032 ?_
    refine zs_iaload (i := i_La_law) (pc := 1033) hX hlt d_La_law_1033 (by rw [show nI (5 * c + 1) + 1 = nI (5 * c + 1 + 1) from nI_add _ 1]; exact vp_in_nI (by omega) (by omega)) ?_
    refine zc_V1 (i := i_La_law) (pc := 1034) 10 rfl m_Mo_outX (ztb_of k_1153 rfl) (ztb_of k_1154 rfl) (ztb_of k_1155 rfl) d_La_law_1034 (Nat.le_of_ble_eq_true rfl) (by show cl + 1 + 0 ≤ 601024; omega) (by show sl + 6 + 0 ≤ 7293000; omega) (Nat.le_of_ble_eq_true rfl) hB (l_outX hS (by have := hU_le hi; omega) (fun c3 hj3 hlt3 ws hS => ?_) (fun hn2 => absurd (show ¬ (fs (nI (5 * c + 1) + 1).toNatClampNeg) < 0 ∧ (fs (nI (5 * c + 1) + 1).toNatClampNeg) < nI (min q.2.1.1 12) from by rw [hj]; exact ⟨nI_pos (by omega), nI_lt hlt2 (by omega)⟩) hn2))
    obtain rfl : c2 = c3 := (nI_eq (by omega) (by omega)).mp (hj.symm.trans hj3)
    have hL2 := back _ _ _ hS
    obtain ⟨fB2, hB2⟩ := hL2.mo
    have hlo2 := hL2.ans
    refine zo_istore (i := i_La_law) (pc := 1037) d_La_law_1037 (Nat.le_of_ble_eq_true rfl) ?_
    refine zo_aload_n (i := i_La_law) (pc := 1039) d_La_law_1039 rfl rfl ?_
    refine zc_V0 (i := i_La_law) (pc := 1040) 10 rfl m_Mo_thrown (ztb_of k_956 rfl) (ztb_of k_957 rfl) (ztb_of k_958 rfl) d_La_law_1040 (Nat.le_of_ble_eq_true rfl) (by show cl + 1 + 0 + 0 ≤ 601024; omega) (by show sl + 6 + 0 + 0 ≤ 7293000; omega) (Nat.le_of_ble_eq_true rfl) hB2 (l_thrown hS ?_)
    refine zo_iload (i := i_La_law) (pc := 1043) d_La_law_1043 rfl ?_
    refine zo_icmp_eq (i := i_La_law) (pc := 1045) (tgt := 1050) d_La_law_1045 (by decide) (fun h1045 => ?_) (fun h1045 => False.elim (by first | exact absurd h1045 (rfl) | exact absurd (rfl) h1045))
    refine zo_iload (i := i_La_law) (pc := 1050) d_La_law_1050 rfl ?_
    refine zo_if_ne (i := i_La_law) (pc := 1052) (tgt := 1067) d_La_law_1052 (by decide) (fun h1052 => False.elim (by first | exact absurd h1052 (rfl) | exact absurd (rfl) h1052)) (fun h1052 => ?_)
    refine zo_aload_n (i := i_La_law) (pc := 1055) d_La_law_1055 rfl rfl ?_
    refine zo_iconst (i := i_La_law) (pc := 1056) (v := 0) d_La_law_1056 (by decide) ?_
    refine zo_laload (i := i_La_law) (pc := 1057) d_La_law_1057 hlo2 (by unfold vp_in; decide) ?_
    refine zo_iload (i := i_La_law) (pc := 1058) d_La_law_1058 rfl ?_
    refine zo_i2l (i := i_La_law) (pc := 1060) d_La_law_1060 ?_
    refine zo_lcmp (i := i_La_law) (pc := 1061) d_La_law_1061 ?_
    refine zo_if_eq (i := i_La_law) (pc := 1062) (tgt := 1067) d_La_law_1062 (by decide) (fun h1062 => ?_) (fun h1062 => False.elim (by first | exact absurd h1062 ((by rw [show vp_updL fl 0 ((q.2.1.2.2.2 ((q.2.1.1 % 12 + 23 - c2) % 12)).toInt64) (0 : Int32).toNatClampNeg = (q.2.1.2.2.2 ((q.2.1.1 % 12 + 23 - c2) % 12)).toInt64 from rfl]; exact lg_same _)) | exact absurd ((by rw [show vp_updL fl 0 ((q.2.1.2.2.2 ((q.2.1.1 % 12 + 23 - c2) % 12)).toInt64) (0 : Int32).toNatClampNeg = (q.2.1.2.2.2 ((q.2.1.1 % 12 + 23 - c2) % 12)).toInt64 from rfl]; exact lg_same _)) h1062))
    refine zo_goto (i := i_La_law) (pc := 1067) (tgt := 1070) d_La_law_1067 (by decide) ?_
    exact k _ _ _ _ _ _ _ _ (by show cl + 1 + 0 + 0 ≤ _; omega) (by show sl + 6 + 0 + 0 ≤ _; omega) hL2 (hi.mono (by omega) (by omega) (by omega) (by omega))
  · have hL1 : zLaw g A B lo [] (q) (q) t fl ws := ⟨m, F, hr, hh⟩
    obtain ⟨fB, hB⟩ := hL1.mo
    have hA := hL1.host
    have hlo := hL1.ans
    obtain ⟨X, hS, back⟩ := hL1.model
    refine zo_istore (i := i_La_law) (pc := 1025) d_La_law_1025 (Nat.le_of_ble_eq_true rfl) ?_
    refine zo_aload_n (i := i_La_law) (pc := 1027) d_La_law_1027 rfl rfl ?_
    refine zo_aload_n (i := i_La_law) (pc := 1028) d_La_law_1028 rfl rfl ?_
    refine zo_iload (i := i_La_law) (pc := 1029) d_La_law_1029 rfl ?_
    refine zo_iconst (i := i_La_law) (pc := 1031) (v := 1) d_La_law_1031 (by decide) ?_
    refine zo_iadd (i := i_La_law) (pc := 1032) d_La_law_1032 ?_
    refine zs_iaload (i := i_La_law) (pc := 1033) hX hlt d_La_law_1033 (by rw [show nI (5 * c + 1) + 1 = nI (5 * c + 1 + 1) from nI_add _ 1]; exact vp_in_nI (by omega) (by omega)) ?_
    refine zc_V1 (i := i_La_law) (pc := 1034) 10 rfl m_Mo_outX (ztb_of k_1153 rfl) (ztb_of k_1154 rfl) (ztb_of k_1155 rfl) d_La_law_1034 (Nat.le_of_ble_eq_true rfl) (by show cl + 1 + 0 ≤ 601024; omega) (by show sl + 6 + 0 ≤ 7293000; omega) (Nat.le_of_ble_eq_true rfl) hB (l_outX hS (by have := hU_le hi; omega) (fun c3 hj hlt2 => absurd (show ¬ (fs (nI (5 * c + 1) + 1).toNatClampNeg) < 0 ∧ (fs (nI (5 * c + 1) + 1).toNatClampNeg) < nI (min q.2.1.1 12) from by rw [hj]; exact ⟨nI_pos (by omega), nI_lt hlt2 (by omega)⟩) hg) (fun _ ws hS => ?_))
    have hL2 := back _ _ _ hS
    obtain ⟨fB2, hB2⟩ := hL2.mo
    have hlo2 := hL2.ans
    refine zo_istore (i := i_La_law) (pc := 1037) d_La_law_1037 (Nat.le_of_ble_eq_true rfl) ?_
    refine zo_aload_n (i := i_La_law) (pc := 1039) d_La_law_1039 rfl rfl ?_
    refine zc_V0 (i := i_La_law) (pc := 1040) 10 rfl m_Mo_thrown (ztb_of k_956 rfl) (ztb_of k_957 rfl) (ztb_of k_958 rfl) d_La_law_1040 (Nat.le_of_ble_eq_true rfl) (by show cl + 1 + 0 + 0 ≤ 601024; omega) (by show sl + 6 + 0 + 0 ≤ 7293000; omega) (Nat.le_of_ble_eq_true rfl) hB2 (l_thrown hS ?_)
    refine zo_iload (i := i_La_law) (pc := 1043) d_La_law_1043 rfl ?_
    refine zo_icmp_eq (i := i_La_law) (pc := 1045) (tgt := 1050) d_La_law_1045 (by decide) (fun h1045 => ?_) (fun h1045 => False.elim (by first | exact absurd h1045 (rfl) | exact absurd (rfl) h1045))
    refine zo_iload (i := i_La_law) (pc := 1050) d_La_law_1050 rfl ?_
    refine zo_if_ne (i := i_La_law) (pc := 1052) (tgt := 1067) d_La_law_1052 (by decide) (fun h1052 => ?_) (fun h1052 => False.elim (by first | exact absurd h1052 ((by decide)) | exact absurd ((by decide)) h1052))
    refine zo_goto (i := i_La_law) (pc := 1067) (tgt := 1070) d_La_law_1067 (by decide) ?_
    exact k _ _ _ _ _ _ _ _ (by show cl + 1 + 0 + 0 ≤ _; omega) (by show sl + 6 + 0 + 0 ≤ _; omega) hL2 (hi.mono (by omega) (by omega) (by omega) (by omega))
