/-! The law: its loop, its start (walks by a program, gen86.py). -/
theorem zsw_0_16 (k : Int32) : k = 0 ∨ k = 1 ∨ k = 2 ∨ k = 3 ∨ k = 4 ∨ k = 5 ∨ k = 6 ∨ k = 7 ∨ k = 8 ∨ k = 9 ∨ k = 10 ∨ k = 11 ∨ k = 12 ∨ k = 13 ∨ k = 14 ∨ k = 15 ∨ k = 16 ∨ (k.toInt < 0 ∨ 16 < k.toInt) := by
  have h : k.toInt = 0 ∨ k.toInt = 1 ∨ k.toInt = 2 ∨ k.toInt = 3 ∨ k.toInt = 4 ∨ k.toInt = 5 ∨ k.toInt = 6 ∨ k.toInt = 7 ∨ k.toInt = 8 ∨ k.toInt = 9 ∨ k.toInt = 10 ∨ k.toInt = 11 ∨ k.toInt = 12 ∨ k.toInt = 13 ∨ k.toInt = 14 ∨ k.toInt = 15 ∨ k.toInt = 16 ∨ (k.toInt < 0 ∨ 16 < k.toInt) := by omega
  have f : ∀ n : Int32, k.toInt = n.toInt → k = n := fun n h => Int32.toInt_inj.mp h
  rcases h with h | h | h | h | h | h | h | h | h | h | h | h | h | h | h | h | h | h
  · exact .inl (f 0 h)
  · exact .inr (.inl (f 1 h))
  · exact .inr (.inr (.inl (f 2 h)))
  · exact .inr (.inr (.inr (.inl (f 3 h))))
  · exact .inr (.inr (.inr (.inr (.inl (f 4 h)))))
  · exact .inr (.inr (.inr (.inr (.inr (.inl (f 5 h))))))
  · exact .inr (.inr (.inr (.inr (.inr (.inr (.inl (f 6 h)))))))
  · exact .inr (.inr (.inr (.inr (.inr (.inr (.inr (.inl (f 7 h))))))))
  · exact .inr (.inr (.inr (.inr (.inr (.inr (.inr (.inr (.inl (f 8 h)))))))))
  · exact .inr (.inr (.inr (.inr (.inr (.inr (.inr (.inr (.inr (.inl (f 9 h))))))))))
  · exact .inr (.inr (.inr (.inr (.inr (.inr (.inr (.inr (.inr (.inr (.inl (f 10 h)))))))))))
  · exact .inr (.inr (.inr (.inr (.inr (.inr (.inr (.inr (.inr (.inr (.inr (.inl (f 11 h))))))))))))
  · exact .inr (.inr (.inr (.inr (.inr (.inr (.inr (.inr (.inr (.inr (.inr (.inr (.inl (f 12 h)))))))))))))
  · exact .inr (.inr (.inr (.inr (.inr (.inr (.inr (.inr (.inr (.inr (.inr (.inr (.inr (.inl (f 13 h))))))))))))))
  · exact .inr (.inr (.inr (.inr (.inr (.inr (.inr (.inr (.inr (.inr (.inr (.inr (.inr (.inr (.inl (f 14 h)))))))))))))))
  · exact .inr (.inr (.inr (.inr (.inr (.inr (.inr (.inr (.inr (.inr (.inr (.inr (.inr (.inr (.inr (.inl (f 15 h))))))))))))))))
  · exact .inr (.inr (.inr (.inr (.inr (.inr (.inr (.inr (.inr (.inr (.inr (.inr (.inr (.inr (.inr (.inr (.inl (f 16 h)))))))))))))))))
  · exact .inr (.inr (.inr (.inr (.inr (.inr (.inr (.inr (.inr (.inr (.inr (.inr (.inr (.inr (.inr (.inr (.inr (h)))))))))))))))))
theorem law_neighbour {x0 : zX} {g : zG} {A B : Nat → Nat} {lo sc n c : Nat} {fs : Nat → Int32} {q : hT} {t : Int32} {fl : Nat → Int64} {ws : va_W} {T U cl sl : Nat} {o5 o6 : Option Value} (hX : va_X sc n fs x0.2.2.1 x0.2.2.1.heap) (hlt : sc < g.2.2.2) (hL : zLaw g A B lo [] (q) (q) t fl ws) (hi : hI q T U) (hTT : T + 100 < 1000000) (hU : U + 1100 < 2000000000) (hcl : cl + 6 ≤ 601024) (hsl : sl + 41 ≤ 7293000) (hc : 5 * c + 6 ≤ n) (hn : n < 1000000) (k : ∀ (q2 : hT) (t2 : Int32) (fl2 : Nat → Int64) (w : va_W) (p5 p6 : Option Value) (cl2 sl2 : Nat), cl2 ≤ cl + 6 → sl2 ≤ sl + 41 → zLaw g A B lo [] (q2) (q2) t2 fl2 w → hI q2 (T + 100) (U + 1100) → zW x0 g i_La_law 1070 [some (.ref sc), some (.ref (A 0)), some (.ref (B 0)), some (.ref lo), some (.int (nI (5 * c + 1))), p5, p6] [] w cl2 sl2) : zW x0 g i_La_law 852 [some (.ref sc), some (.ref (A 0)), some (.ref (B 0)), some (.ref lo), some (.int (nI (5 * c + 1))), o5, o6] [] ws cl sl := by
  obtain ⟨fB, hB⟩ := hL.mo
  have hA := hL.host
  have hlo := hL.ans
  obtain ⟨m, F, hr, hh⟩ := id hL
  obtain ⟨X, hS, back⟩ := hL.model
  obtain ⟨c9, _, _, _, _, _, _, _, _, hvn, _⟩ := id hi
  refine zo_aload_n (i := i_La_law) (pc := 852) d_La_law_852 rfl rfl ?_
  refine zo_aload_n (i := i_La_law) (pc := 853) d_La_law_853 rfl rfl ?_
  refine zo_iload (i := i_La_law) (pc := 854) d_La_law_854 rfl ?_
  refine zo_iconst (i := i_La_law) (pc := 856) (v := 1) d_La_law_856 (by decide) ?_
  refine zo_iadd (i := i_La_law) (pc := 857) d_La_law_857 ?_
  refine zs_iaload (i := i_La_law) (pc := 858) hX hlt d_La_law_858 (by rw [show nI (5 * c + 1) + 1 = nI (5 * c + 1 + 1) from nI_add _ 1]; exact vp_in_nI (by omega) (by omega)) ?_
  refine zc_V1 (i := i_La_law) (pc := 859) 9 rfl m_Ho_neighbour (ztb_of k_305 rfl) (ztb_of k_306 rfl) (ztb_of k_307 rfl) d_La_law_859 (Nat.le_of_ble_eq_true rfl) (by show cl + 0 ≤ 601024; omega) (by show sl + 0 ≤ 7293000; omega) (Nat.le_of_ble_eq_true rfl) hA (c_Ho_neighbour hh ?_)
  refine zo_aload_n (i := i_La_law) (pc := 862) d_La_law_862 rfl rfl ?_
  refine zo_aload_n (i := i_La_law) (pc := 863) d_La_law_863 rfl rfl ?_
  refine zo_iload (i := i_La_law) (pc := 864) d_La_law_864 rfl ?_
  refine zo_iconst (i := i_La_law) (pc := 866) (v := 1) d_La_law_866 (by decide) ?_
  refine zo_iadd (i := i_La_law) (pc := 867) d_La_law_867 ?_
  refine zs_iaload (i := i_La_law) (pc := 868) hX hlt d_La_law_868 (by rw [show nI (5 * c + 1) + 1 = nI (5 * c + 1 + 1) from nI_add _ 1]; exact vp_in_nI (by omega) (by omega)) ?_
  refine zc_V1 (i := i_La_law) (pc := 869) 10 rfl m_Mo_neighbour (ztb_of k_1129 rfl) (ztb_of k_1130 rfl) (ztb_of k_1131 rfl) d_La_law_869 (Nat.le_of_ble_eq_true rfl) (by show cl + 0 + 0 ≤ 601024; omega) (by show sl + 0 + 0 ≤ 7293000; omega) (Nat.le_of_ble_eq_true rfl) hB (l_neighbour hS hvn fun ws hS => ?_)
  refine zo_icmp_eq (i := i_La_law) (pc := 872) (tgt := 1070) d_La_law_872 (by decide) (fun h872 => ?_) (fun h872 => False.elim (by first | exact absurd h872 (rfl) | exact absurd (rfl) h872))
  exact k _ _ _ _ _ _ _ _ (by show cl + 0 + 0 ≤ _; omega) (by show sl + 0 + 0 ≤ _; omega) (back _ _ _ hS) (hi.mono (by omega) (by omega) (by omega) (by omega))
theorem law_sizeTo {x0 : zX} {g : zG} {A B : Nat → Nat} {lo sc n c : Nat} {fs : Nat → Int32} {q : hT} {t : Int32} {fl : Nat → Int64} {ws : va_W} {T U cl sl : Nat} {o5 o6 : Option Value} (hX : va_X sc n fs x0.2.2.1 x0.2.2.1.heap) (hlt : sc < g.2.2.2) (hL : zLaw g A B lo [] (q) (q) t fl ws) (hi : hI q T U) (hTT : T + 100 < 1000000) (hU : U + 1100 < 2000000000) (hcl : cl + 6 ≤ 601024) (hsl : sl + 41 ≤ 7293000) (hc : 5 * c + 6 ≤ n) (hn : n < 1000000) (k : ∀ (q2 : hT) (t2 : Int32) (fl2 : Nat → Int64) (w : va_W) (p5 p6 : Option Value) (cl2 sl2 : Nat), cl2 ≤ cl + 6 → sl2 ≤ sl + 41 → zLaw g A B lo [] (q2) (q2) t2 fl2 w → hI q2 (T + 100) (U + 1100) → zW x0 g i_La_law 1070 [some (.ref sc), some (.ref (A 0)), some (.ref (B 0)), some (.ref lo), some (.int (nI (5 * c + 1))), p5, p6] [] w cl2 sl2) : zW x0 g i_La_law 877 [some (.ref sc), some (.ref (A 0)), some (.ref (B 0)), some (.ref lo), some (.int (nI (5 * c + 1))), o5, o6] [] ws cl sl := by
  obtain ⟨fB, hB⟩ := hL.mo
  have hA := hL.host
  have hlo := hL.ans
  obtain ⟨m, F, hr, hh⟩ := id hL
  obtain ⟨X, hS, back⟩ := hL.model
  refine zo_aload_n (i := i_La_law) (pc := 877) d_La_law_877 rfl rfl ?_
  refine zo_aload_n (i := i_La_law) (pc := 878) d_La_law_878 rfl rfl ?_
  refine zo_iload (i := i_La_law) (pc := 879) d_La_law_879 rfl ?_
  refine zo_iconst (i := i_La_law) (pc := 881) (v := 1) d_La_law_881 (by decide) ?_
  refine zo_iadd (i := i_La_law) (pc := 882) d_La_law_882 ?_
  refine zs_iaload (i := i_La_law) (pc := 883) hX hlt d_La_law_883 (by rw [show nI (5 * c + 1) + 1 = nI (5 * c + 1 + 1) from nI_add _ 1]; exact vp_in_nI (by omega) (by omega)) ?_
  refine zc_V1 (i := i_La_law) (pc := 884) 9 rfl m_Ho_sizeTo (ztb_of k_337 rfl) (ztb_of k_338 rfl) (ztb_of k_339 rfl) d_La_law_884 (Nat.le_of_ble_eq_true rfl) (by show cl + 0 ≤ 601024; omega) (by show sl + 0 ≤ 7293000; omega) (Nat.le_of_ble_eq_true rfl) hA (c_Ho_sizeTo hh ?_)
  refine zo_aload_n (i := i_La_law) (pc := 887) d_La_law_887 rfl rfl ?_
  refine zo_aload_n (i := i_La_law) (pc := 888) d_La_law_888 rfl rfl ?_
  refine zo_iload (i := i_La_law) (pc := 889) d_La_law_889 rfl ?_
  refine zo_iconst (i := i_La_law) (pc := 891) (v := 1) d_La_law_891 (by decide) ?_
  refine zo_iadd (i := i_La_law) (pc := 892) d_La_law_892 ?_
  refine zs_iaload (i := i_La_law) (pc := 893) hX hlt d_La_law_893 (by rw [show nI (5 * c + 1) + 1 = nI (5 * c + 1 + 1) from nI_add _ 1]; exact vp_in_nI (by omega) (by omega)) ?_
  refine zc_V1 (i := i_La_law) (pc := 894) 10 rfl m_Mo_sizeTo (ztb_of k_1133 rfl) (ztb_of k_1134 rfl) (ztb_of k_1135 rfl) d_La_law_894 (Nat.le_of_ble_eq_true rfl) (by show cl + 0 + 0 ≤ 601024; omega) (by show sl + 0 + 0 ≤ 7293000; omega) (Nat.le_of_ble_eq_true rfl) hB (l_sizeTo hS fun ws hS => ?_)
  refine zo_icmp_eq (i := i_La_law) (pc := 897) (tgt := 1070) d_La_law_897 (by decide) (fun h897 => ?_) (fun h897 => False.elim (by first | exact absurd h897 (rfl) | exact absurd (rfl) h897))
  exact k _ _ _ _ _ _ _ _ (by show cl + 0 + 0 ≤ _; omega) (by show sl + 0 + 0 ≤ _; omega) (back _ _ _ hS) (hi.mono (by omega) (by omega) (by omega) (by omega))
theorem law_loop {x0 : zX} {g : zG} {A B : Nat → Nat} {lo sc n : Nat} {fs : Nat → Int32} (hnt : g.1.stackTraces = false) (hX : va_X sc n fs x0.2.2.1 x0.2.2.1.heap) (hlt : sc < g.2.2.2) (hend : ∀ (loc : List (Option Value)) (ws : va_W) (cl sl : Nat), cl ≤ 4000 → sl ≤ 30000 → zW x0 g i_La_law 1077 loc [.int 1] ws cl sl) (hn : n ≤ 2561) : ∀ (d c : Nat) (q : hT) (t : Int32) (fl : Nat → Int64) (ws : va_W) (o5 o6 : Option Value) (cl sl : Nat), c + d = 600 → cl ≤ 50 + 6 * c → sl ≤ 400 + 41 * c → zLaw g A B lo [] (q) (q) t fl ws → hI q (100 * c) (1100 * c + 1) → zW x0 g i_La_law 33 [some (.ref sc), some (.ref (A 0)), some (.ref (B 0)), some (.ref lo), some (.int (nI (5 * c + 1))), o5, o6] [] ws cl sl := by
  intro d
  induction d with
  | zero =>
    intro c q t fl ws o5 o6 cl sl hd hcl hsl hL hi
    refine zo_iload (i := i_La_law) (pc := 33) d_La_law_33 rfl ?_
    refine zo_aload_n (i := i_La_law) (pc := 35) d_La_law_35 rfl rfl ?_
    refine zs_alen (i := i_La_law) (pc := 36) hX hlt d_La_law_36 ?_
    refine zo_iconst (i := i_La_law) (pc := 37) (v := 5) d_La_law_37 (by decide) ?_
    refine zo_isub (i := i_La_law) (pc := 38) d_La_law_38 ?_
    refine zo_icmp_gt (i := i_La_law) (pc := 39) (tgt := 1076) d_La_law_39 (by decide) (fun h39 => ?_) (fun h39 => False.elim (by first | exact absurd h39 (((nI_m5 (by omega) (by omega)).mpr (by omega))) | exact absurd (((nI_m5 (by omega) (by omega)).mpr (by omega))) h39))
    refine zo_iconst (i := i_La_law) (pc := 1076) (v := 1) d_La_law_1076 (by decide) ?_
    exact hend _ ws cl sl (by omega) (by omega)
  | succ d ih =>
    intro c q t fl ws o5 o6 cl sl hd hcl hsl hL hi
    by_cases hc : 5 * c + 6 ≤ n
    · have step : ∀ (q2 : hT) (t2 : Int32) (fl2 : Nat → Int64) (w : va_W) (p5 p6 : Option Value) (cl2 sl2 : Nat), cl2 ≤ cl + 6 → sl2 ≤ sl + 41 → zLaw g A B lo [] (q2) (q2) t2 fl2 w → hI q2 (100 * c + 100) (1100 * c + 1 + 1100) → zW x0 g i_La_law 1070 [some (.ref sc), some (.ref (A 0)), some (.ref (B 0)), some (.ref lo), some (.int (nI (5 * c + 1))), p5, p6] [] w cl2 sl2 := by
        intro q2 t2 fl2 w p5 p6 cl2 sl2 h1 h2 hL2 hi2
        refine zo_iinc (i := i_La_law) (pc := 1070) (v := nI (5 * (c + 1) + 1)) d_La_law_1070 rfl (by rw [show 5 * (c + 1) + 1 = 5 * c + 1 + 5 by omega]; exact nI_add (5 * c + 1) 5) (Nat.le_of_ble_eq_true rfl) ?_
        refine zo_goto (i := i_La_law) (pc := 1073) (tgt := 33) d_La_law_1073 (by decide) ?_
        exact ih (c + 1) q2 t2 fl2 w _ _ cl2 sl2 (by omega) (by omega) (by omega) hL2 (hi2.mono (by omega) (by omega) (by omega) (by omega))
      refine zo_iload (i := i_La_law) (pc := 33) d_La_law_33 rfl ?_
      refine zo_aload_n (i := i_La_law) (pc := 35) d_La_law_35 rfl rfl ?_
      refine zs_alen (i := i_La_law) (pc := 36) hX hlt d_La_law_36 ?_
      refine zo_iconst (i := i_La_law) (pc := 37) (v := 5) d_La_law_37 (by decide) ?_
      refine zo_isub (i := i_La_law) (pc := 38) d_La_law_38 ?_
      refine zo_icmp_gt (i := i_La_law) (pc := 39) (tgt := 1076) d_La_law_39 (by decide) (fun h39 => False.elim (by first | exact absurd h39 ((fun hh => absurd ((nI_m5 (by omega) (by omega)).mp hh) (by omega))) | exact absurd ((fun hh => absurd ((nI_m5 (by omega) (by omega)).mp hh) (by omega))) h39)) (fun h39 => ?_)
      refine zo_aload_n (i := i_La_law) (pc := 42) d_La_law_42 rfl rfl ?_
      refine zo_iload (i := i_La_law) (pc := 43) d_La_law_43 rfl ?_
      refine zs_iaload (i := i_La_law) (pc := 45) hX hlt d_La_law_45 (vp_in_nI (by omega) (by omega)) ?_
      refine zo_bipush (i := i_La_law) (pc := 46) (v := 31) d_La_law_46 (by decide) ?_
      refine zo_iand (i := i_La_law) (pc := 48) d_La_law_48 ?_
      rcases zsw_0_16 (fs (nI (5 * c + 1)).toNatClampNeg &&& 31) with h49 | h49 | h49 | h49 | h49 | h49 | h49 | h49 | h49 | h49 | h49 | h49 | h49 | h49 | h49 | h49 | h49 | h49
      · rw [h49]
        refine zo_tableIn (i := i_La_law) (pc := 49) (off := 83) (tgt := 132) d_La_law_49 (by decide) (by decide) rfl (by decide) ?_
        exact law_tick hnt hX hlt hL hi (by omega) (by omega) (by omega) (by omega) hc (by omega) step
      · rw [h49]
        refine zo_tableIn (i := i_La_law) (pc := 49) (off := 119) (tgt := 168) d_La_law_49 (by decide) (by decide) rfl (by decide) ?_
        exact law_router hnt hX hlt hL hi (by omega) (by omega) (by omega) (by omega) hc (by omega) step
      · rw [h49]
        refine zo_tableIn (i := i_La_law) (pc := 49) (off := 191) (tgt := 240) d_La_law_49 (by decide) (by decide) rfl (by decide) ?_
        exact law_prefix hnt hX hlt hL hi (by omega) (by omega) (by omega) (by omega) hc (by omega) step
      · rw [h49]
        refine zo_tableIn (i := i_La_law) (pc := 49) (off := 263) (tgt := 312) d_La_law_49 (by decide) (by decide) rfl (by decide) ?_
        exact law_asked hnt hX hlt hL hi (by omega) (by omega) (by omega) (by omega) hc (by omega) step
      · rw [h49]
        refine zo_tableIn (i := i_La_law) (pc := 49) (off := 323) (tgt := 372) d_La_law_49 (by decide) (by decide) rfl (by decide) ?_
        exact law_told hnt hX hlt hL hi (by omega) (by omega) (by omega) (by omega) hc (by omega) step
      · rw [h49]
        refine zo_tableIn (i := i_La_law) (pc := 49) (off := 383) (tgt := 432) d_La_law_49 (by decide) (by decide) rfl (by decide) ?_
        exact law_send hnt hX hlt hL hi (by omega) (by omega) (by omega) (by omega) hc (by omega) step
      · rw [h49]
        refine zo_tableIn (i := i_La_law) (pc := 49) (off := 451) (tgt := 500) d_La_law_49 (by decide) (by decide) rfl (by decide) ?_
        exact law_smaller hnt hX hlt hL hi (by omega) (by omega) (by omega) (by omega) hc (by omega) step
      · rw [h49]
        refine zo_tableIn (i := i_La_law) (pc := 49) (off := 499) (tgt := 548) d_La_law_49 (by decide) (by decide) rfl (by decide) ?_
        exact law_header hnt hX hlt hL hi (by omega) (by omega) (by omega) (by omega) hc (by omega) step
      · rw [h49]
        refine zo_tableIn (i := i_La_law) (pc := 49) (off := 567) (tgt := 616) d_La_law_49 (by decide) (by decide) rfl (by decide) ?_
        exact law_come hnt hX hlt hL hi (by omega) (by omega) (by omega) (by omega) hc (by omega) step
      · rw [h49]
        refine zo_tableIn (i := i_La_law) (pc := 49) (off := 635) (tgt := 684) d_La_law_49 (by decide) (by decide) rfl (by decide) ?_
        exact law_count hnt hX hlt hL hi (by omega) (by omega) (by omega) (by omega) hc (by omega) step
      · rw [h49]
        refine zo_tableIn (i := i_La_law) (pc := 49) (off := 691) (tgt := 740) d_La_law_49 (by decide) (by decide) rfl (by decide) ?_
        exact law_own hnt hX hlt hL hi (by omega) (by omega) (by omega) (by omega) hc (by omega) step
      · rw [h49]
        refine zo_tableIn (i := i_La_law) (pc := 49) (off := 747) (tgt := 796) d_La_law_49 (by decide) (by decide) rfl (by decide) ?_
        exact law_until hnt hX hlt hL hi (by omega) (by omega) (by omega) (by omega) hc (by omega) step
      · rw [h49]
        refine zo_tableIn (i := i_La_law) (pc := 49) (off := 803) (tgt := 852) d_La_law_49 (by decide) (by decide) rfl (by decide) ?_
        exact law_neighbour hX hlt hL hi (by omega) (by omega) (by omega) (by omega) hc (by omega) step
      · rw [h49]
        refine zo_tableIn (i := i_La_law) (pc := 49) (off := 828) (tgt := 877) d_La_law_49 (by decide) (by decide) rfl (by decide) ?_
        exact law_sizeTo hX hlt hL hi (by omega) (by omega) (by omega) (by omega) hc (by omega) step
      · rw [h49]
        refine zo_tableIn (i := i_La_law) (pc := 49) (off := 853) (tgt := 902) d_La_law_49 (by decide) (by decide) rfl (by decide) ?_
        exact law_outKind hnt hX hlt hL hi (by omega) (by omega) (by omega) (by omega) hc (by omega) step
      · rw [h49]
        refine zo_tableIn (i := i_La_law) (pc := 49) (off := 909) (tgt := 958) d_La_law_49 (by decide) (by decide) rfl (by decide) ?_
        exact law_outTo hnt hX hlt hL hi (by omega) (by omega) (by omega) (by omega) hc (by omega) step
      · rw [h49]
        refine zo_tableIn (i := i_La_law) (pc := 49) (off := 965) (tgt := 1014) d_La_law_49 (by decide) (by decide) rfl (by decide) ?_
        exact law_outX hnt hX hlt hL hi (by omega) (by omega) (by omega) (by omega) hc (by omega) step
      · refine zo_tableOut (i := i_La_law) (pc := 49) (tgt := 1070) d_La_law_49 h49 (by decide) ?_
        exact step q t fl ws _ _ cl sl (by omega) (by omega) hL (hi.mono (by omega) (by omega) (by omega) (by omega))
    · refine zo_iload (i := i_La_law) (pc := 33) d_La_law_33 rfl ?_
      refine zo_aload_n (i := i_La_law) (pc := 35) d_La_law_35 rfl rfl ?_
      refine zs_alen (i := i_La_law) (pc := 36) hX hlt d_La_law_36 ?_
      refine zo_iconst (i := i_La_law) (pc := 37) (v := 5) d_La_law_37 (by decide) ?_
      refine zo_isub (i := i_La_law) (pc := 38) d_La_law_38 ?_
      refine zo_icmp_gt (i := i_La_law) (pc := 39) (tgt := 1076) d_La_law_39 (by decide) (fun h39 => ?_) (fun h39 => False.elim (by first | exact absurd h39 (((nI_m5 (by omega) (by omega)).mpr (by omega))) | exact absurd (((nI_m5 (by omega) (by omega)).mpr (by omega))) h39))
      refine zo_iconst (i := i_La_law) (pc := 1076) (v := 1) d_La_law_1076 (by decide) ?_
      exact hend _ ws cl sl (by omega) (by omega)
theorem c_La_cell {g : zG} {ws : va_W} {post : Option Value → va_W → Prop} {sc n : Nat} {fs : Nat → Int32} (hlt : sc < g.2.2.2) (hn : n < 1000000) (k : post (some (.int (if 0 < n then fs 0 else 0))) ws) : zCX g i_La_cell [.ref sc, .int 0] ws sc n fs post := by
  refine zCX.intro (by decide +kernel) rfl (Nat.le_of_ble_eq_true rfl) fun x0 hq hX => ?_
  by_cases h0 : 0 < n
  · rw [if_pos h0] at k
    refine zo_iload_n (i := i_La_cell) (pc := 0) d_La_cell_0 rfl ?_
    refine zo_aload_n (i := i_La_cell) (pc := 1) d_La_cell_1 rfl rfl ?_
    refine zs_alen (i := i_La_cell) (pc := 2) hX hlt d_La_cell_2 ?_
    refine zo_icmp_ge (i := i_La_cell) (pc := 3) (tgt := 12) d_La_cell_3 (by decide) (fun h3 => False.elim (by first | exact absurd h3 ((by show ¬ nI n ≤ 0; exact nI_nle h0 (by omega))) | exact absurd ((by show ¬ nI n ≤ 0; exact nI_nle h0 (by omega))) h3)) (fun h3 => ?_)
    refine zo_aload_n (i := i_La_cell) (pc := 6) d_La_cell_6 rfl rfl ?_
    refine zo_iload_n (i := i_La_cell) (pc := 7) d_La_cell_7 rfl ?_
    refine zs_iaload (i := i_La_cell) (pc := 8) hX hlt d_La_cell_8 (by show vp_in (nI 0) n; exact vp_in_nI h0 (by omega)) ?_
    refine zo_goto (i := i_La_cell) (pc := 9) (tgt := 13) d_La_cell_9 (by decide) ?_
    refine zo_ireturn (i := i_La_cell) (pc := 13) hq d_La_cell_13 rfl (Nat.le_of_ble_eq_true rfl) (Nat.le_of_ble_eq_true rfl) ?_
    exact k
  · rw [if_neg h0] at k
    refine zo_iload_n (i := i_La_cell) (pc := 0) d_La_cell_0 rfl ?_
    refine zo_aload_n (i := i_La_cell) (pc := 1) d_La_cell_1 rfl rfl ?_
    refine zs_alen (i := i_La_cell) (pc := 2) hX hlt d_La_cell_2 ?_
    refine zo_icmp_ge (i := i_La_cell) (pc := 3) (tgt := 12) d_La_cell_3 (by decide) (fun h3 => ?_) (fun h3 => False.elim (by first | exact absurd h3 ((by show nI n ≤ 0; rw [show n = 0 by omega]; decide)) | exact absurd ((by show nI n ≤ 0; rw [show n = 0 by omega]; decide)) h3))
    refine zo_iconst (i := i_La_cell) (pc := 12) (v := 0) d_La_cell_12 (by decide) ?_
    refine zo_ireturn (i := i_La_cell) (pc := 13) hq d_La_cell_13 rfl (Nat.le_of_ble_eq_true rfl) (Nat.le_of_ble_eq_true rfl) ?_
    exact k
theorem law_start {x0 : zX} {g : zG} {sc n : Nat} {fs : Nat → Int32} (hnt : g.1.stackTraces = false) (hX : va_X sc n fs x0.2.2.1 x0.2.2.1.heap) (hlt : sc < g.2.2.2) (hn : n ≤ 2561) (hend : ∀ (loc : List (Option Value)) (ws : va_W) (cl sl : Nat), cl ≤ 4000 → sl ≤ 30000 → zW x0 g i_La_law 1077 loc [.int 1] ws cl sl) : zW x0 g i_La_law 0 (zloc [.ref sc] 7) [] [] 0 0 := by
  generalize hv0 : (if 0 < n then fs 0 else 0) = v0
  have hs : zHas ([] : va_W) ([] : va_W) := ⟨List.nodup_nil, fun q hq => by cases hq⟩
  refine zh_new (i := i_La_law) (pc := 0) 9 rfl zok_Ho (ztb_of k_26 rfl) (ztb_of k_27 rfl) (ztb_of k_1 rfl) d_La_law_0 (fs := [.int 0, .null, .null, .null, .null, .null, .null, .null, .int 0, .int 0, .int 0, .int 0, .int 0, .int 0]) (by decide) (Nat.le_of_ble_eq_true rfl) (Nat.le_of_ble_eq_true rfl) hs fun a0 ws hs => ?_
  refine zo_dup (i := i_La_law) (pc := 3) d_La_law_3 rfl ?_
  refine zo_aload_n (i := i_La_law) (pc := 4) d_La_law_4 rfl rfl ?_
  refine zo_iconst (i := i_La_law) (pc := 5) (v := 0) d_La_law_5 (by decide) ?_
  refine zs_callS (i := i_La_law) (pc := 6) (av := [.ref sc, .int 0]) m_La_cell (ztb_of k_348 rfl) (ztb_of k_349 rfl) d_La_law_6 rfl hX hlt (Nat.le_of_ble_eq_true rfl) (Nat.le_of_ble_eq_true rfl) (Nat.le_of_ble_eq_true rfl) (Nat.le_of_ble_eq_true rfl) rfl (c_La_cell hlt (by omega) ?_)
  rw [hv0]
  refine zc_I1 (i := i_La_law) (pc := 9) m_Ho_init rfl rfl (ztb_of k_28 rfl) (ztb_of k_29 rfl) d_La_law_9 (Nat.le_of_ble_eq_true rfl) (Nat.le_of_ble_eq_true rfl) (Nat.le_of_ble_eq_true rfl) (Nat.le_of_ble_eq_true rfl) (c_Ho_init hs fun A ws hA0 hh => ?_)
  subst hA0
  obtain ⟨ow, nb, ro, pf, pa, h1, h2, h3, h4, h5, e1, e2, e3, e4, e5, h6, hs⟩ := hh
  refine zo_astore_n (i := i_La_law) (pc := 12) d_La_law_12 rfl (Nat.le_of_ble_eq_true rfl) ?_
  refine zh_new (i := i_La_law) (pc := 13) 10 rfl zok_Mo (ztb_of k_838 rfl) (ztb_of k_839 rfl) (ztb_of k_15 rfl) d_La_law_13 (fs := [.int 0, .int 0, .int 0, .int 0, .int 0, .int 0, .int 0, .int 0, .int 0, .null, .null, .null, .int 0, .null, .null, .null, .null, .null, .int 0, .null, .null, .null, .null, .null, .null, .null, .null, .null, .null, .int 0, .null, .null]) (by decide) (Nat.le_of_ble_eq_true rfl) (Nat.le_of_ble_eq_true rfl) hs fun a13 ws hs => ?_
  refine zo_dup (i := i_La_law) (pc := 16) d_La_law_16 rfl ?_
  refine zo_aload_n (i := i_La_law) (pc := 17) d_La_law_17 rfl rfl ?_
  refine zo_iconst (i := i_La_law) (pc := 18) (v := 0) d_La_law_18 (by decide) ?_
  refine zs_callS (i := i_La_law) (pc := 19) (av := [.ref sc, .int 0]) m_La_cell (ztb_of k_348 rfl) (ztb_of k_349 rfl) d_La_law_19 rfl hX hlt (Nat.le_of_ble_eq_true rfl) (Nat.le_of_ble_eq_true rfl) (Nat.le_of_ble_eq_true rfl) (Nat.le_of_ble_eq_true rfl) rfl (c_La_cell hlt (by omega) ?_)
  rw [hv0]
  refine zc_I1 (i := i_La_law) (pc := 22) m_Mo_init rfl rfl (ztb_of k_840 rfl) (ztb_of k_841 rfl) d_La_law_22 (Nat.le_of_ble_eq_true rfl) (Nat.le_of_ble_eq_true rfl) (Nat.le_of_ble_eq_true rfl) (Nat.le_of_ble_eq_true rfl) (l_init hs fun B ws hB0 hS => ?_)
  subst hB0
  obtain ⟨m, F, hr, hs⟩ := hS
  refine zo_astore_n (i := i_La_law) (pc := 25) d_La_law_25 rfl (Nat.le_of_ble_eq_true rfl) ?_
  refine zo_iconst (i := i_La_law) (pc := 26) (v := 1) d_La_law_26 (by decide) ?_
  refine zh_newJ (i := i_La_law) (pc := 27) (m := 1) d_La_law_27 (ztb_of k_1157 rfl) (by decide) (by decide) (Nat.le_of_ble_eq_true rfl) (Nat.le_of_ble_eq_true rfl) (Nat.le_of_ble_eq_true rfl) hs fun a27 ws hs => ?_
  refine zo_astore_n (i := i_La_law) (pc := 29) d_La_law_29 rfl (Nat.le_of_ble_eq_true rfl) ?_
  refine zo_iconst (i := i_La_law) (pc := 30) (v := 1) d_La_law_30 (by decide) ?_
  rw [show (1 : Int32) = nI (5 * 0 + 1) from rfl]
  refine zo_istore (i := i_La_law) (pc := 31) d_La_law_31 (Nat.le_of_ble_eq_true rfl) ?_
  have hL : zLaw g A B a27 [] (newT v0) (newT v0) 0 (fun _ => 0) ws := by
    refine ⟨m, F, hr, ow, nb, ro, pf, pa, h1, h2, h3, h4, h5, e1, e2, e3, e4, e5, h6, ?_⟩
    rw [hL_R, List.append_nil]
    refine hs.perm ?_
    exact (List.perm_append_comm.cons _).trans List.perm_middle.symm
  exact law_loop hnt hX hlt hend hn 600 0 (newT v0) 0 (fun _ => 0) ws none none _ _ (by omega) (by decide) (by decide) hL (hI_new v0)
