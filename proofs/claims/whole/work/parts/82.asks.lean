/-! The model by states: what is asked of it (walks by a program, gen82.py). -/
theorem wi_out {k : Int32} (h : k.toInt < 0 ∨ 11 < k.toInt) : ¬ zwithin k 0 11 = true := by
  intro hh
  obtain ⟨h1, h2⟩ := zw_iff.mp hh
  rw [Int32.lt_iff_toInt_lt] at h1 h2
  rw [show (0 : Int32).toInt = 0 from rfl] at h1
  rw [show (11 : Int32).toInt = 11 by decide] at h2
  omega
theorem zsw_0_11 (k : Int32) : k = 0 ∨ k = 1 ∨ k = 2 ∨ k = 3 ∨ k = 4 ∨ k = 5 ∨ k = 6 ∨ k = 7 ∨ k = 8 ∨ k = 9 ∨ k = 10 ∨ k = 11 ∨ (k.toInt < 0 ∨ 11 < k.toInt) := by
  have h : k.toInt = 0 ∨ k.toInt = 1 ∨ k.toInt = 2 ∨ k.toInt = 3 ∨ k.toInt = 4 ∨ k.toInt = 5 ∨ k.toInt = 6 ∨ k.toInt = 7 ∨ k.toInt = 8 ∨ k.toInt = 9 ∨ k.toInt = 10 ∨ k.toInt = 11 ∨ (k.toInt < 0 ∨ 11 < k.toInt) := by omega
  rcases h with h | h | h | h | h | h | h | h | h | h | h | h | h
  · exact .inl (Int32.toInt_inj.mp h)
  · exact .inr (.inl (Int32.toInt_inj.mp h))
  · exact .inr (.inr (.inl (Int32.toInt_inj.mp h)))
  · exact .inr (.inr (.inr (.inl (Int32.toInt_inj.mp h))))
  · exact .inr (.inr (.inr (.inr (.inl (Int32.toInt_inj.mp h)))))
  · exact .inr (.inr (.inr (.inr (.inr (.inl (Int32.toInt_inj.mp h))))))
  · exact .inr (.inr (.inr (.inr (.inr (.inr (.inl (Int32.toInt_inj.mp h)))))))
  · exact .inr (.inr (.inr (.inr (.inr (.inr (.inr (.inl (Int32.toInt_inj.mp h))))))))
  · exact .inr (.inr (.inr (.inr (.inr (.inr (.inr (.inr (.inl (Int32.toInt_inj.mp h)))))))))
  · exact .inr (.inr (.inr (.inr (.inr (.inr (.inr (.inr (.inr (.inl (Int32.toInt_inj.mp h))))))))))
  · exact .inr (.inr (.inr (.inr (.inr (.inr (.inr (.inr (.inr (.inr (.inl (Int32.toInt_inj.mp h)))))))))))
  · exact .inr (.inr (.inr (.inr (.inr (.inr (.inr (.inr (.inr (.inr (.inr (.inl (Int32.toInt_inj.mp h))))))))))))
  · exact .inr (.inr (.inr (.inr (.inr (.inr (.inr (.inr (.inr (.inr (.inr (.inr h)))))))))))
theorem l_count {g : zG} {ws : va_W} {post : Option Value → va_W → Prop} {B : Nat → Nat} {q : hT} {t : Int32} {R : va_W} (h : mS g B q t R ws) {w : Int32} (hu : q.2.1.1 < 2147483648) (k0 : zwithin w 0 11 = true → ∀ w', mS g B q 0 R w' → post (some (.int (cntT q w))) w') (k1 : ¬ (zwithin w 0 11 = true) → ∀ w', mS g B q 1 R w' → post (some (.int 0)) w') : zC g i_Mo_count [.ref (B 0), .int w] ws post := by
  refine zC.intro (by decide +kernel) rfl (Nat.le_of_ble_eq_true rfl) fun x0 hq => ?_
  obtain ⟨m, F, hr, hs⟩ := h
  by_cases hg : zwithin w 0 11 = true
  · refine zo_aload_n (i := i_Mo_count) (pc := 0) d_Mo_count_0 rfl rfl ?_
    refine zo_iload_n (i := i_Mo_count) (pc := 1) d_Mo_count_1 rfl ?_
    refine zo_if_lt (i := i_Mo_count) (pc := 2) (tgt := 11) d_Mo_count_2 (by decide) (fun h2 => False.elim (by first | exact absurd h2 ((zw_iff.mp hg).1) | exact absurd ((zw_iff.mp hg).1) h2)) (fun h2 => ?_)
    refine zo_iload_n (i := i_Mo_count) (pc := 5) d_Mo_count_5 rfl ?_
    refine zo_bipush (i := i_Mo_count) (pc := 6) (v := 11) d_Mo_count_6 (by decide) ?_
    refine zo_icmp_le (i := i_Mo_count) (pc := 8) (tgt := 15) d_Mo_count_8 (by decide) (fun h8 => ?_) (fun h8 => False.elim (by first | exact absurd h8 ((Int32.not_lt.mp (zw_iff.mp hg).2)) | exact absurd ((Int32.not_lt.mp (zw_iff.mp hg).2)) h8))
    refine zo_iconst (i := i_Mo_count) (pc := 15) (v := 0) d_Mo_count_15 (by decide) ?_
    refine zh_put (i := i_Mo_count) (pc := 16) 10 0 rfl zok_Mo (Nat.le_of_ble_eq_true rfl) (ztb_of k_858 rfl) rfl d_Mo_count_16 (fun _ _ _ h => h) (t_Mo_ok 0 (Nat.le_of_ble_eq_true rfl)) rfl rfl hs 0 rfl (Nat.le_of_ble_eq_true rfl) fun ws hs => ?_
    refine zo_iload_n (i := i_Mo_count) (pc := 19) d_Mo_count_19 rfl ?_
    rcases zsw_0_11 w with h20 | h20 | h20 | h20 | h20 | h20 | h20 | h20 | h20 | h20 | h20 | h20 | h20
    · rw [h20]
      refine zo_tableIn (i := i_Mo_count) (pc := 20) (off := 64) (tgt := 84) d_Mo_count_20 (by decide) (by decide) rfl (by decide) ?_
      refine zo_aload_n (i := i_Mo_count) (pc := 84) d_Mo_count_84 rfl rfl ?_
      refine zo_get (i := i_Mo_count) (pc := 85) 10 2 rfl zok_Mo (Nat.le_of_ble_eq_true rfl) (ztb_of k_860 rfl) d_Mo_count_85 (fun _ _ _ h => h) (hs.get (t := 0) rfl) rfl ?_
      refine zo_ireturn (i := i_Mo_count) (pc := 88) hq d_Mo_count_88 rfl (Nat.le_of_ble_eq_true rfl) (Nat.le_of_ble_eq_true rfl) ?_
      have kk := k0 hg ws ⟨_, _, hr.thrown, hs⟩
      rw [h20] at kk
      unfold cntT at kk
      rw [if_pos rfl] at kk
      rw [hr.1.2.2.1]
      exact kk
    · rw [h20]
      refine zo_tableIn (i := i_Mo_count) (pc := 20) (off := 69) (tgt := 89) d_Mo_count_20 (by decide) (by decide) rfl (by decide) ?_
      refine zo_aload_n (i := i_Mo_count) (pc := 89) d_Mo_count_89 rfl rfl ?_
      refine zo_get (i := i_Mo_count) (pc := 90) 10 12 rfl zok_Mo (Nat.le_of_ble_eq_true rfl) (ztb_of k_870 rfl) d_Mo_count_90 (fun _ _ _ h => h) (hs.get (t := 0) rfl) rfl ?_
      refine zo_ireturn (i := i_Mo_count) (pc := 93) hq d_Mo_count_93 rfl (Nat.le_of_ble_eq_true rfl) (Nat.le_of_ble_eq_true rfl) ?_
      have kk := k0 hg ws ⟨_, _, hr.thrown, hs⟩
      rw [h20] at kk
      unfold cntT at kk
      rw [if_neg (by decide), if_pos rfl] at kk
      rw [hr.2.2.1.1]
      exact kk
    · rw [h20]
      refine zo_tableIn (i := i_Mo_count) (pc := 20) (off := 74) (tgt := 94) d_Mo_count_20 (by decide) (by decide) rfl (by decide) ?_
      refine zo_aload_n (i := i_Mo_count) (pc := 94) d_Mo_count_94 rfl rfl ?_
      refine zo_get (i := i_Mo_count) (pc := 95) 10 25 rfl zok_Mo (Nat.le_of_ble_eq_true rfl) (ztb_of k_883 rfl) d_Mo_count_95 (fun _ _ _ h => h) (hs.get (t := 0) rfl) rfl ?_
      refine zo_iload_n (i := i_Mo_count) (pc := 98) d_Mo_count_98 rfl ?_
      refine zo_iconst (i := i_Mo_count) (pc := 99) (v := 2) d_Mo_count_99 (by decide) ?_
      refine zo_isub (i := i_Mo_count) (pc := 100) d_Mo_count_100 ?_
      refine zo_iaload (i := i_Mo_count) (pc := 101) d_Mo_count_101 (hs.get (t := 15) rfl) (by unfold vp_in; decide) ?_
      refine zo_ireturn (i := i_Mo_count) (pc := 102) hq d_Mo_count_102 rfl (Nat.le_of_ble_eq_true rfl) (Nat.le_of_ble_eq_true rfl) ?_
      have kk := k0 hg ws ⟨_, _, hr.thrown, hs⟩
      rw [h20] at kk
      unfold cntT at kk
      rw [if_neg (by decide), if_neg (by decide), if_pos rfl] at kk
      have e := (hr.2.2.2.2.1 0 (by omega)).1
      rw [show ((2 : Int32) - 2).toNatClampNeg = 0 by decide, e]
      exact kk
    · rw [h20]
      refine zo_tableIn (i := i_Mo_count) (pc := 20) (off := 74) (tgt := 94) d_Mo_count_20 (by decide) (by decide) rfl (by decide) ?_
      refine zo_aload_n (i := i_Mo_count) (pc := 94) d_Mo_count_94 rfl rfl ?_
      refine zo_get (i := i_Mo_count) (pc := 95) 10 25 rfl zok_Mo (Nat.le_of_ble_eq_true rfl) (ztb_of k_883 rfl) d_Mo_count_95 (fun _ _ _ h => h) (hs.get (t := 0) rfl) rfl ?_
      refine zo_iload_n (i := i_Mo_count) (pc := 98) d_Mo_count_98 rfl ?_
      refine zo_iconst (i := i_Mo_count) (pc := 99) (v := 2) d_Mo_count_99 (by decide) ?_
      refine zo_isub (i := i_Mo_count) (pc := 100) d_Mo_count_100 ?_
      refine zo_iaload (i := i_Mo_count) (pc := 101) d_Mo_count_101 (hs.get (t := 15) rfl) (by unfold vp_in; decide) ?_
      refine zo_ireturn (i := i_Mo_count) (pc := 102) hq d_Mo_count_102 rfl (Nat.le_of_ble_eq_true rfl) (Nat.le_of_ble_eq_true rfl) ?_
      have kk := k0 hg ws ⟨_, _, hr.thrown, hs⟩
      rw [h20] at kk
      unfold cntT at kk
      rw [if_neg (by decide), if_neg (by decide), if_neg (by decide), if_pos rfl] at kk
      have e := (hr.2.2.2.2.1 1 (by omega)).1
      rw [show ((3 : Int32) - 2).toNatClampNeg = 1 by decide, e]
      exact kk
    · rw [h20]
      refine zo_tableIn (i := i_Mo_count) (pc := 20) (off := 83) (tgt := 103) d_Mo_count_20 (by decide) (by decide) rfl (by decide) ?_
      refine zo_aload_n (i := i_Mo_count) (pc := 103) d_Mo_count_103 rfl rfl ?_
      refine zo_get (i := i_Mo_count) (pc := 104) 10 18 rfl zok_Mo (Nat.le_of_ble_eq_true rfl) (ztb_of k_876 rfl) d_Mo_count_104 (fun _ _ _ h => h) (hs.get (t := 0) rfl) rfl ?_
      refine zo_ireturn (i := i_Mo_count) (pc := 107) hq d_Mo_count_107 rfl (Nat.le_of_ble_eq_true rfl) (Nat.le_of_ble_eq_true rfl) ?_
      have kk := k0 hg ws ⟨_, _, hr.thrown, hs⟩
      rw [h20] at kk
      unfold cntT at kk
      rw [if_neg (by decide), if_neg (by decide), if_neg (by decide), if_neg (by decide), if_pos rfl] at kk
      rw [hr.2.2.2.1.1]
      exact kk
    · rw [h20]
      refine zo_tableIn (i := i_Mo_count) (pc := 20) (off := 88) (tgt := 108) d_Mo_count_20 (by decide) (by decide) rfl (by decide) ?_
      refine zo_aload_n (i := i_Mo_count) (pc := 108) d_Mo_count_108 rfl rfl ?_
      refine zo_get (i := i_Mo_count) (pc := 109) 10 25 rfl zok_Mo (Nat.le_of_ble_eq_true rfl) (ztb_of k_883 rfl) d_Mo_count_109 (fun _ _ _ h => h) (hs.get (t := 0) rfl) rfl ?_
      refine zo_iconst (i := i_Mo_count) (pc := 112) (v := 2) d_Mo_count_112 (by decide) ?_
      refine zo_iaload (i := i_Mo_count) (pc := 113) d_Mo_count_113 (hs.get (t := 15) rfl) (by unfold vp_in; decide) ?_
      refine zo_ireturn (i := i_Mo_count) (pc := 114) hq d_Mo_count_114 rfl (Nat.le_of_ble_eq_true rfl) (Nat.le_of_ble_eq_true rfl) ?_
      have kk := k0 hg ws ⟨_, _, hr.thrown, hs⟩
      rw [h20] at kk
      unfold cntT at kk
      rw [if_neg (by decide), if_neg (by decide), if_neg (by decide), if_neg (by decide), if_neg (by decide), if_pos rfl] at kk
      have e := (hr.2.2.2.2.1 2 (by omega)).1
      rw [show (2 : Int32).toNatClampNeg = 2 by decide, e]
      exact kk
    · rw [h20]
      refine zo_tableIn (i := i_Mo_count) (pc := 20) (off := 95) (tgt := 115) d_Mo_count_20 (by decide) (by decide) rfl (by decide) ?_
      refine zo_aload_n (i := i_Mo_count) (pc := 115) d_Mo_count_115 rfl rfl ?_
      refine zo_get (i := i_Mo_count) (pc := 116) 10 8 rfl zok_Mo (Nat.le_of_ble_eq_true rfl) (ztb_of k_866 rfl) d_Mo_count_116 (fun _ _ _ h => h) (hs.get (t := 0) rfl) rfl ?_
      refine zo_ireturn (i := i_Mo_count) (pc := 119) hq d_Mo_count_119 rfl (Nat.le_of_ble_eq_true rfl) (Nat.le_of_ble_eq_true rfl) ?_
      have kk := k0 hg ws ⟨_, _, hr.thrown, hs⟩
      rw [h20] at kk
      unfold cntT at kk
      rw [if_neg (by decide), if_neg (by decide), if_neg (by decide), if_neg (by decide), if_neg (by decide), if_neg (by decide), if_pos rfl] at kk
      rw [hr.2.1.1]
      exact kk
    · rw [h20]
      refine zo_tableIn (i := i_Mo_count) (pc := 20) (off := 100) (tgt := 120) d_Mo_count_20 (by decide) (by decide) rfl (by decide) ?_
      refine zo_aload_n (i := i_Mo_count) (pc := 120) d_Mo_count_120 rfl rfl ?_
      refine zo_get (i := i_Mo_count) (pc := 121) 10 6 rfl zok_Mo (Nat.le_of_ble_eq_true rfl) (ztb_of k_864 rfl) d_Mo_count_121 (fun _ _ _ h => h) (hs.get (t := 0) rfl) rfl ?_
      refine zo_ireturn (i := i_Mo_count) (pc := 124) hq d_Mo_count_124 rfl (Nat.le_of_ble_eq_true rfl) (Nat.le_of_ble_eq_true rfl) ?_
      have kk := k0 hg ws ⟨_, _, hr.thrown, hs⟩
      rw [h20] at kk
      unfold cntT at kk
      rw [if_neg (by decide), if_neg (by decide), if_neg (by decide), if_neg (by decide), if_neg (by decide), if_neg (by decide), if_neg (by decide), if_pos rfl] at kk
      rw [hr.1.2.2.2.2.2.2.1]
      exact kk
    · rw [h20]
      refine zo_tableIn (i := i_Mo_count) (pc := 20) (off := 105) (tgt := 125) d_Mo_count_20 (by decide) (by decide) rfl (by decide) ?_
      refine zo_aload_n (i := i_Mo_count) (pc := 125) d_Mo_count_125 rfl rfl ?_
      refine zo_get (i := i_Mo_count) (pc := 126) 10 7 rfl zok_Mo (Nat.le_of_ble_eq_true rfl) (ztb_of k_865 rfl) d_Mo_count_126 (fun _ _ _ h => h) (hs.get (t := 0) rfl) rfl ?_
      refine zo_ireturn (i := i_Mo_count) (pc := 129) hq d_Mo_count_129 rfl (Nat.le_of_ble_eq_true rfl) (Nat.le_of_ble_eq_true rfl) ?_
      have kk := k0 hg ws ⟨_, _, hr.thrown, hs⟩
      rw [h20] at kk
      unfold cntT at kk
      rw [if_neg (by decide), if_neg (by decide), if_neg (by decide), if_neg (by decide), if_neg (by decide), if_neg (by decide), if_neg (by decide), if_neg (by decide), if_pos rfl] at kk
      rw [hr.1.2.2.2.2.2.2.2]
      exact kk
    · rw [h20]
      refine zo_tableIn (i := i_Mo_count) (pc := 20) (off := 110) (tgt := 130) d_Mo_count_20 (by decide) (by decide) rfl (by decide) ?_
      refine zo_aload_n (i := i_Mo_count) (pc := 130) d_Mo_count_130 rfl rfl ?_
      refine zo_get (i := i_Mo_count) (pc := 131) 10 5 rfl zok_Mo (Nat.le_of_ble_eq_true rfl) (ztb_of k_863 rfl) d_Mo_count_131 (fun _ _ _ h => h) (hs.get (t := 0) rfl) rfl ?_
      refine zo_ireturn (i := i_Mo_count) (pc := 134) hq d_Mo_count_134 rfl (Nat.le_of_ble_eq_true rfl) (Nat.le_of_ble_eq_true rfl) ?_
      have kk := k0 hg ws ⟨_, _, hr.thrown, hs⟩
      rw [h20] at kk
      unfold cntT at kk
      rw [if_neg (by decide), if_neg (by decide), if_neg (by decide), if_neg (by decide), if_neg (by decide), if_neg (by decide), if_neg (by decide), if_neg (by decide), if_neg (by decide), if_pos rfl] at kk
      rw [hr.1.2.2.2.2.2.1]
      exact kk
    · rw [h20]
      refine zo_tableIn (i := i_Mo_count) (pc := 20) (off := 115) (tgt := 135) d_Mo_count_20 (by decide) (by decide) rfl (by decide) ?_
      refine zo_aload_n (i := i_Mo_count) (pc := 135) d_Mo_count_135 rfl rfl ?_
      refine zo_get (i := i_Mo_count) (pc := 136) 10 4 rfl zok_Mo (Nat.le_of_ble_eq_true rfl) (ztb_of k_862 rfl) d_Mo_count_136 (fun _ _ _ h => h) (hs.get (t := 0) rfl) rfl ?_
      refine zo_ireturn (i := i_Mo_count) (pc := 139) hq d_Mo_count_139 rfl (Nat.le_of_ble_eq_true rfl) (Nat.le_of_ble_eq_true rfl) ?_
      have kk := k0 hg ws ⟨_, _, hr.thrown, hs⟩
      rw [h20] at kk
      unfold cntT at kk
      rw [if_neg (by decide), if_neg (by decide), if_neg (by decide), if_neg (by decide), if_neg (by decide), if_neg (by decide), if_neg (by decide), if_neg (by decide), if_neg (by decide), if_neg (by decide), if_pos rfl] at kk
      rw [hr.1.2.2.2.2.1]
      exact kk
    · rw [h20]
      refine zo_tableIn (i := i_Mo_count) (pc := 20) (off := 120) (tgt := 140) d_Mo_count_20 (by decide) (by decide) rfl (by decide) ?_
      refine zo_aload_n (i := i_Mo_count) (pc := 140) d_Mo_count_140 rfl rfl ?_
      refine zo_get (i := i_Mo_count) (pc := 141) 10 3 rfl zok_Mo (Nat.le_of_ble_eq_true rfl) (ztb_of k_861 rfl) d_Mo_count_141 (fun _ _ _ h => h) (hs.get (t := 0) rfl) rfl ?_
      refine zo_if_eq (i := i_Mo_count) (pc := 144) (tgt := 151) d_Mo_count_144 (by decide) (fun h144 => ?_) (fun h144 => ?_)
      · refine zo_iconst (i := i_Mo_count) (pc := 151) (v := 0) d_Mo_count_151 (by decide) ?_
        refine zo_ireturn (i := i_Mo_count) (pc := 152) hq d_Mo_count_152 rfl (Nat.le_of_ble_eq_true rfl) (Nat.le_of_ble_eq_true rfl) ?_
        have kk := k0 hg ws ⟨_, _, hr.thrown, hs⟩
        rw [h20] at kk
        unfold cntT at kk
        rw [if_neg (by decide), if_neg (by decide), if_neg (by decide), if_neg (by decide), if_neg (by decide), if_neg (by decide), if_neg (by decide), if_neg (by decide), if_neg (by decide), if_neg (by decide), if_neg (by decide)] at kk
        have hd3 := hr.1.2.2.2.1
        rw [hd3] at h144
        have hdn := zb_eq h144
        rw [hdn] at kk
        exact kk
      · refine zo_iconst (i := i_Mo_count) (pc := 147) (v := 1) d_Mo_count_147 (by decide) ?_
        refine zo_goto (i := i_Mo_count) (pc := 148) (tgt := 152) d_Mo_count_148 (by decide) ?_
        refine zo_ireturn (i := i_Mo_count) (pc := 152) hq d_Mo_count_152 rfl (Nat.le_of_ble_eq_true rfl) (Nat.le_of_ble_eq_true rfl) ?_
        have kk := k0 hg ws ⟨_, _, hr.thrown, hs⟩
        rw [h20] at kk
        unfold cntT at kk
        rw [if_neg (by decide), if_neg (by decide), if_neg (by decide), if_neg (by decide), if_neg (by decide), if_neg (by decide), if_neg (by decide), if_neg (by decide), if_neg (by decide), if_neg (by decide), if_neg (by decide)] at kk
        have hd3 := hr.1.2.2.2.1
        rw [hd3] at h144
        have hdn := zb_ne h144
        rw [hdn] at kk
        exact kk
    · refine zo_tableOut (i := i_Mo_count) (pc := 20) (tgt := 153) d_Mo_count_20 h20 (by decide) ?_
      refine zo_iconst (i := i_Mo_count) (pc := 153) (v := 0) d_Mo_count_153 (by decide) ?_
      refine zo_ireturn (i := i_Mo_count) (pc := 154) hq d_Mo_count_154 rfl (Nat.le_of_ble_eq_true rfl) (Nat.le_of_ble_eq_true rfl) ?_
      exact absurd hg (wi_out h20)
  · refine zo_aload_n (i := i_Mo_count) (pc := 0) d_Mo_count_0 rfl rfl ?_
    refine zo_iload_n (i := i_Mo_count) (pc := 1) d_Mo_count_1 rfl ?_
    refine zo_if_lt (i := i_Mo_count) (pc := 2) (tgt := 11) d_Mo_count_2 (by decide) (fun h2 => ?_) (fun h2 => ?_)
    · refine zo_iconst (i := i_Mo_count) (pc := 11) (v := 1) d_Mo_count_11 (by decide) ?_
      refine zo_goto (i := i_Mo_count) (pc := 12) (tgt := 16) d_Mo_count_12 (by decide) ?_
      refine zh_put (i := i_Mo_count) (pc := 16) 10 0 rfl zok_Mo (Nat.le_of_ble_eq_true rfl) (ztb_of k_858 rfl) rfl d_Mo_count_16 (fun _ _ _ h => h) (t_Mo_ok 0 (Nat.le_of_ble_eq_true rfl)) rfl rfl hs 0 rfl (Nat.le_of_ble_eq_true rfl) fun ws hs => ?_
      refine zo_iload_n (i := i_Mo_count) (pc := 19) d_Mo_count_19 rfl ?_
      have ho : w.toInt < 0 ∨ 11 < w.toInt := by
        by_cases h1 : w < 0
        · rw [Int32.lt_iff_toInt_lt] at h1
          exact .inl h1
        · have h2 : 11 < w := Decidable.not_not.mp (fun hh => hg (zw_iff.mpr ⟨h1, hh⟩))
          rw [Int32.lt_iff_toInt_lt] at h2
          rw [show (11 : Int32).toInt = 11 by decide] at h2
          exact .inr h2
      refine zo_tableOut (i := i_Mo_count) (pc := 20) (tgt := 153) d_Mo_count_20 ho (by decide) ?_
      refine zo_iconst (i := i_Mo_count) (pc := 153) (v := 0) d_Mo_count_153 (by decide) ?_
      refine zo_ireturn (i := i_Mo_count) (pc := 154) hq d_Mo_count_154 rfl (Nat.le_of_ble_eq_true rfl) (Nat.le_of_ble_eq_true rfl) ?_
      exact k1 hg ws ⟨_, _, hr.thrown, hs⟩
    · refine zo_iload_n (i := i_Mo_count) (pc := 5) d_Mo_count_5 rfl ?_
      refine zo_bipush (i := i_Mo_count) (pc := 6) (v := 11) d_Mo_count_6 (by decide) ?_
      refine zo_icmp_le (i := i_Mo_count) (pc := 8) (tgt := 15) d_Mo_count_8 (by decide) (fun h8 => False.elim (by first | exact absurd h8 ((fun hh => hg (zw_iff.mpr ⟨h2, Int32.not_lt.mpr hh⟩))) | exact absurd ((fun hh => hg (zw_iff.mpr ⟨h2, Int32.not_lt.mpr hh⟩))) h8)) (fun h8 => ?_)
      refine zo_iconst (i := i_Mo_count) (pc := 11) (v := 1) d_Mo_count_11 (by decide) ?_
      refine zo_goto (i := i_Mo_count) (pc := 12) (tgt := 16) d_Mo_count_12 (by decide) ?_
      refine zh_put (i := i_Mo_count) (pc := 16) 10 0 rfl zok_Mo (Nat.le_of_ble_eq_true rfl) (ztb_of k_858 rfl) rfl d_Mo_count_16 (fun _ _ _ h => h) (t_Mo_ok 0 (Nat.le_of_ble_eq_true rfl)) rfl rfl hs 0 rfl (Nat.le_of_ble_eq_true rfl) fun ws hs => ?_
      refine zo_iload_n (i := i_Mo_count) (pc := 19) d_Mo_count_19 rfl ?_
      have ho : w.toInt < 0 ∨ 11 < w.toInt := by
        by_cases h1 : w < 0
        · rw [Int32.lt_iff_toInt_lt] at h1
          exact .inl h1
        · have h2 : 11 < w := Decidable.not_not.mp (fun hh => hg (zw_iff.mpr ⟨h1, hh⟩))
          rw [Int32.lt_iff_toInt_lt] at h2
          rw [show (11 : Int32).toInt = 11 by decide] at h2
          exact .inr h2
      refine zo_tableOut (i := i_Mo_count) (pc := 20) (tgt := 153) d_Mo_count_20 ho (by decide) ?_
      refine zo_iconst (i := i_Mo_count) (pc := 153) (v := 0) d_Mo_count_153 (by decide) ?_
      refine zo_ireturn (i := i_Mo_count) (pc := 154) hq d_Mo_count_154 rfl (Nat.le_of_ble_eq_true rfl) (Nat.le_of_ble_eq_true rfl) ?_
      exact k1 hg ws ⟨_, _, hr.thrown, hs⟩
theorem l_neighbour {g : zG} {ws : va_W} {post : Option Value → va_W → Prop} {B : Nat → Nat} {q : hT} {t : Int32} {R : va_W} (h : mS g B q t R ws) {a : Int32} {c : Nat} {dn : Bool} (hv : ∀ x ∈ q.2.2.2.1, nV c dn x) (k : ∀ w, mS g B q 0 R w → post (some (.int (nbT q a))) w) : zC g i_Mo_neighbour [.ref (B 0), .int a] ws post := by
  refine zC.intro (by decide +kernel) rfl (Nat.le_of_ble_eq_true rfl) fun x0 hq => ?_
  obtain ⟨m, F, hr, hs⟩ := h
  refine zo_aload_n (i := i_Mo_neighbour) (pc := 0) d_Mo_neighbour_0 rfl rfl ?_
  refine zo_iconst (i := i_Mo_neighbour) (pc := 1) (v := 0) d_Mo_neighbour_1 (by decide) ?_
  refine zh_put (i := i_Mo_neighbour) (pc := 2) 10 0 rfl zok_Mo (Nat.le_of_ble_eq_true rfl) (ztb_of k_858 rfl) rfl d_Mo_neighbour_2 (fun _ _ _ h => h) (t_Mo_ok 0 (Nat.le_of_ble_eq_true rfl)) rfl rfl hs 0 rfl (Nat.le_of_ble_eq_true rfl) fun ws hs => ?_
  refine zo_aload_n (i := i_Mo_neighbour) (pc := 5) d_Mo_neighbour_5 rfl rfl ?_
  refine zo_iload_n (i := i_Mo_neighbour) (pc := 6) d_Mo_neighbour_6 rfl ?_
  replace hs : zHas ws (moW g B (mup m 0 0) F ++ R) := hs
  obtain ⟨m, F, hr, hs⟩ : mS g B q 0 R ws := ⟨_, _, hr.thrown, hs⟩
  refine zc_V1 (i := i_Mo_neighbour) (pc := 7) 10 rfl m_Mo_neighbourAt (ztb_of k_1012 rfl) (ztb_of k_1014 rfl) s_Mo_neighbourAt d_Mo_neighbour_7 (Nat.le_of_ble_eq_true rfl) (Nat.le_of_ble_eq_true rfl) (Nat.le_of_ble_eq_true rfl) (Nat.le_of_ble_eq_true rfl) (hs.get (t := 0) rfl) (l_nbAt ⟨_, _, hr, hs⟩ (fun j x hx hxa hf hset hno => ?_) (fun hf => ?_))
  · obtain ⟨o19, o20, o21, o22, o23, o24, ho7⟩ := hr.nb hx
    have hxv := hv x (List.mem_of_getElem? hx)
    refine zo_istore_n (i := i_Mo_neighbour) (pc := 10) d_Mo_neighbour_10 (Nat.le_of_ble_eq_true rfl) ?_
    refine zo_iload_n (i := i_Mo_neighbour) (pc := 11) d_Mo_neighbour_11 rfl ?_
    refine zo_if_ge (i := i_Mo_neighbour) (pc := 12) (tgt := 19) d_Mo_neighbour_12 (by decide) (fun h12 => ?_) (fun h12 => False.elim (by first | exact absurd h12 ((nI_pos' (by omega))) | exact absurd ((nI_pos' (by omega))) h12))
    refine zo_aload_n (i := i_Mo_neighbour) (pc := 19) d_Mo_neighbour_19 rfl rfl ?_
    refine zo_get (i := i_Mo_neighbour) (pc := 20) 10 22 rfl zok_Mo (Nat.le_of_ble_eq_true rfl) (ztb_of k_880 rfl) d_Mo_neighbour_20 (fun _ _ _ h => h) (hs.get (t := 0) rfl) rfl ?_
    refine zo_iload_n (i := i_Mo_neighbour) (pc := 23) d_Mo_neighbour_23 rfl ?_
    refine zo_iaload (i := i_Mo_neighbour) (pc := 24) d_Mo_neighbour_24 (hs.get (t := 12) rfl) (vp_in_nI (by omega) (by decide)) ?_
    refine zo_bipush (i := i_Mo_neighbour) (pc := 25) (v := 8) d_Mo_neighbour_25 (by decide) ?_
    refine zo_aload_n (i := i_Mo_neighbour) (pc := 27) d_Mo_neighbour_27 rfl rfl ?_
    refine zo_get (i := i_Mo_neighbour) (pc := 28) 10 20 rfl zok_Mo (Nat.le_of_ble_eq_true rfl) (ztb_of k_878 rfl) d_Mo_neighbour_28 (fun _ _ _ h => h) (hs.get (t := 0) rfl) rfl ?_
    refine zo_iload_n (i := i_Mo_neighbour) (pc := 31) d_Mo_neighbour_31 rfl ?_
    refine zo_iaload (i := i_Mo_neighbour) (pc := 32) d_Mo_neighbour_32 (hs.get (t := 10) rfl) (vp_in_nI (by omega) (by decide)) ?_
    refine zo_imul (i := i_Mo_neighbour) (pc := 33) d_Mo_neighbour_33 ?_
    refine zo_iadd (i := i_Mo_neighbour) (pc := 34) d_Mo_neighbour_34 ?_
    refine zo_aload_n (i := i_Mo_neighbour) (pc := 35) d_Mo_neighbour_35 rfl rfl ?_
    refine zo_get (i := i_Mo_neighbour) (pc := 36) 10 21 rfl zok_Mo (Nat.le_of_ble_eq_true rfl) (ztb_of k_879 rfl) d_Mo_neighbour_36 (fun _ _ _ h => h) (hs.get (t := 0) rfl) rfl ?_
    refine zo_iload_n (i := i_Mo_neighbour) (pc := 39) d_Mo_neighbour_39 rfl ?_
    refine zo_zaload (i := i_Mo_neighbour) (pc := 40) d_Mo_neighbour_40 (hs.get (t := 11) rfl) (vp_in_nI (by omega) (by decide)) ?_
    refine zo_if_eq (i := i_Mo_neighbour) (pc := 41) (tgt := 50) d_Mo_neighbour_41 (by decide) (fun h41 => ?_) (fun h41 => ?_)
    · refine zo_iconst (i := i_Mo_neighbour) (pc := 50) (v := 0) d_Mo_neighbour_50 (by decide) ?_
      refine zo_iadd (i := i_Mo_neighbour) (pc := 51) d_Mo_neighbour_51 ?_
      refine zo_aload_n (i := i_Mo_neighbour) (pc := 52) d_Mo_neighbour_52 rfl rfl ?_
      refine zo_get (i := i_Mo_neighbour) (pc := 53) 10 24 rfl zok_Mo (Nat.le_of_ble_eq_true rfl) (ztb_of k_882 rfl) d_Mo_neighbour_53 (fun _ _ _ h => h) (hs.get (t := 0) rfl) rfl ?_
      refine zo_iload_n (i := i_Mo_neighbour) (pc := 56) d_Mo_neighbour_56 rfl ?_
      refine zo_iaload (i := i_Mo_neighbour) (pc := 57) d_Mo_neighbour_57 (hs.get (t := 14) rfl) (vp_in_nI (by omega) (by decide)) ?_
      refine zo_if_le (i := i_Mo_neighbour) (pc := 58) (tgt := 67) d_Mo_neighbour_58 (by decide) (fun h58 => ?_) (fun h58 => ?_)
      · refine zo_iconst (i := i_Mo_neighbour) (pc := 67) (v := 0) d_Mo_neighbour_67 (by decide) ?_
        refine zo_iadd (i := i_Mo_neighbour) (pc := 68) d_Mo_neighbour_68 ?_
        refine zo_ireturn (i := i_Mo_neighbour) (pc := 69) hq d_Mo_neighbour_69 rfl (Nat.le_of_ble_eq_true rfl) (Nat.le_of_ble_eq_true rfl) ?_
        rw [o21] at h41
        rw [o24] at h58
        rw [o22, o20]
        have hw0 : x.2.2.2.2.2 = 0 := Int32.le_antisymm h58 (Int32.not_lt.mp hxv.1)
        have kk := k ws ⟨_, _, hr, hs⟩
        unfold nbT at kk
        rw [hf] at kk
        simp only at kk
        rw [zb_eq h41, if_neg (by decide), if_pos hw0] at kk
        exact kk
      · refine zo_sipush (i := i_Mo_neighbour) (pc := 61) (v := 2048) d_Mo_neighbour_61 (by decide) ?_
        refine zo_goto (i := i_Mo_neighbour) (pc := 64) (tgt := 68) d_Mo_neighbour_64 (by decide) ?_
        refine zo_iadd (i := i_Mo_neighbour) (pc := 68) d_Mo_neighbour_68 ?_
        refine zo_ireturn (i := i_Mo_neighbour) (pc := 69) hq d_Mo_neighbour_69 rfl (Nat.le_of_ble_eq_true rfl) (Nat.le_of_ble_eq_true rfl) ?_
        rw [o21] at h41
        rw [o24] at h58
        rw [o22, o20]
        have hw0 : ¬ x.2.2.2.2.2 = 0 := fun hh => h58 (by rw [hh]; decide)
        have kk := k ws ⟨_, _, hr, hs⟩
        unfold nbT at kk
        rw [hf] at kk
        simp only at kk
        rw [zb_eq h41, if_neg (by decide), if_neg hw0] at kk
        exact kk
    · refine zo_sipush (i := i_Mo_neighbour) (pc := 44) (v := 1024) d_Mo_neighbour_44 (by decide) ?_
      refine zo_goto (i := i_Mo_neighbour) (pc := 47) (tgt := 51) d_Mo_neighbour_47 (by decide) ?_
      refine zo_iadd (i := i_Mo_neighbour) (pc := 51) d_Mo_neighbour_51 ?_
      refine zo_aload_n (i := i_Mo_neighbour) (pc := 52) d_Mo_neighbour_52 rfl rfl ?_
      refine zo_get (i := i_Mo_neighbour) (pc := 53) 10 24 rfl zok_Mo (Nat.le_of_ble_eq_true rfl) (ztb_of k_882 rfl) d_Mo_neighbour_53 (fun _ _ _ h => h) (hs.get (t := 0) rfl) rfl ?_
      refine zo_iload_n (i := i_Mo_neighbour) (pc := 56) d_Mo_neighbour_56 rfl ?_
      refine zo_iaload (i := i_Mo_neighbour) (pc := 57) d_Mo_neighbour_57 (hs.get (t := 14) rfl) (vp_in_nI (by omega) (by decide)) ?_
      refine zo_if_le (i := i_Mo_neighbour) (pc := 58) (tgt := 67) d_Mo_neighbour_58 (by decide) (fun h58 => ?_) (fun h58 => ?_)
      · refine zo_iconst (i := i_Mo_neighbour) (pc := 67) (v := 0) d_Mo_neighbour_67 (by decide) ?_
        refine zo_iadd (i := i_Mo_neighbour) (pc := 68) d_Mo_neighbour_68 ?_
        refine zo_ireturn (i := i_Mo_neighbour) (pc := 69) hq d_Mo_neighbour_69 rfl (Nat.le_of_ble_eq_true rfl) (Nat.le_of_ble_eq_true rfl) ?_
        rw [o21] at h41
        rw [o24] at h58
        rw [o22, o20]
        have hw0 : x.2.2.2.2.2 = 0 := Int32.le_antisymm h58 (Int32.not_lt.mp hxv.1)
        have kk := k ws ⟨_, _, hr, hs⟩
        unfold nbT at kk
        rw [hf] at kk
        simp only at kk
        rw [zb_ne h41, if_pos (by decide), if_pos hw0] at kk
        exact kk
      · refine zo_sipush (i := i_Mo_neighbour) (pc := 61) (v := 2048) d_Mo_neighbour_61 (by decide) ?_
        refine zo_goto (i := i_Mo_neighbour) (pc := 64) (tgt := 68) d_Mo_neighbour_64 (by decide) ?_
        refine zo_iadd (i := i_Mo_neighbour) (pc := 68) d_Mo_neighbour_68 ?_
        refine zo_ireturn (i := i_Mo_neighbour) (pc := 69) hq d_Mo_neighbour_69 rfl (Nat.le_of_ble_eq_true rfl) (Nat.le_of_ble_eq_true rfl) ?_
        rw [o21] at h41
        rw [o24] at h58
        rw [o22, o20]
        have hw0 : ¬ x.2.2.2.2.2 = 0 := fun hh => h58 (by rw [hh]; decide)
        have kk := k ws ⟨_, _, hr, hs⟩
        unfold nbT at kk
        rw [hf] at kk
        simp only at kk
        rw [zb_ne h41, if_pos (by decide), if_neg hw0] at kk
        exact kk
  · refine zo_istore_n (i := i_Mo_neighbour) (pc := 10) d_Mo_neighbour_10 (Nat.le_of_ble_eq_true rfl) ?_
    refine zo_iload_n (i := i_Mo_neighbour) (pc := 11) d_Mo_neighbour_11 rfl ?_
    refine zo_if_ge (i := i_Mo_neighbour) (pc := 12) (tgt := 19) d_Mo_neighbour_12 (by decide) (fun h12 => False.elim (by first | exact absurd h12 ((by decide)) | exact absurd ((by decide)) h12)) (fun h12 => ?_)
    refine zo_iconst (i := i_Mo_neighbour) (pc := 15) (v := 0) d_Mo_neighbour_15 (by decide) ?_
    refine zo_goto (i := i_Mo_neighbour) (pc := 16) (tgt := 69) d_Mo_neighbour_16 (by decide) ?_
    refine zo_ireturn (i := i_Mo_neighbour) (pc := 69) hq d_Mo_neighbour_69 rfl (Nat.le_of_ble_eq_true rfl) (Nat.le_of_ble_eq_true rfl) ?_
    have kk := k ws ⟨_, _, hr, hs⟩
    unfold nbT at kk
    rw [hf] at kk
    exact kk
theorem l_sizeTo {g : zG} {ws : va_W} {post : Option Value → va_W → Prop} {B : Nat → Nat} {q : hT} {t : Int32} {R : va_W} (h : mS g B q t R ws) {a : Int32} (k : ∀ w, mS g B q 0 R w → post (some (.int (sizeT q a))) w) : zC g i_Mo_sizeTo [.ref (B 0), .int a] ws post := by
  refine zC.intro (by decide +kernel) rfl (Nat.le_of_ble_eq_true rfl) fun x0 hq => ?_
  obtain ⟨m, F, hr, hs⟩ := h
  refine zo_aload_n (i := i_Mo_sizeTo) (pc := 0) d_Mo_sizeTo_0 rfl rfl ?_
  refine zo_iconst (i := i_Mo_sizeTo) (pc := 1) (v := 0) d_Mo_sizeTo_1 (by decide) ?_
  refine zh_put (i := i_Mo_sizeTo) (pc := 2) 10 0 rfl zok_Mo (Nat.le_of_ble_eq_true rfl) (ztb_of k_858 rfl) rfl d_Mo_sizeTo_2 (fun _ _ _ h => h) (t_Mo_ok 0 (Nat.le_of_ble_eq_true rfl)) rfl rfl hs 0 rfl (Nat.le_of_ble_eq_true rfl) fun ws hs => ?_
  refine zo_aload_n (i := i_Mo_sizeTo) (pc := 5) d_Mo_sizeTo_5 rfl rfl ?_
  refine zo_iload_n (i := i_Mo_sizeTo) (pc := 6) d_Mo_sizeTo_6 rfl ?_
  replace hs : zHas ws (moW g B (mup m 0 0) F ++ R) := hs
  obtain ⟨m, F, hr, hs⟩ : mS g B q 0 R ws := ⟨_, _, hr.thrown, hs⟩
  refine zc_V1 (i := i_Mo_sizeTo) (pc := 7) 10 rfl m_Mo_sizeFor (ztb_of k_1085 rfl) (ztb_of k_1087 rfl) s_Mo_sizeFor d_Mo_sizeTo_7 (Nat.le_of_ble_eq_true rfl) (Nat.le_of_ble_eq_true rfl) (Nat.le_of_ble_eq_true rfl) (Nat.le_of_ble_eq_true rfl) (hs.get (t := 0) rfl) (l_sizeFor ⟨_, _, hr, hs⟩ ?_)
  refine zo_ireturn (i := i_Mo_sizeTo) (pc := 10) hq d_Mo_sizeTo_10 rfl (Nat.le_of_ble_eq_true rfl) (Nat.le_of_ble_eq_true rfl) ?_
  exact k ws ⟨_, _, hr, hs⟩
section ZAsk2
variable {g : zG} {ws : va_W} {post : Option Value → va_W → Prop} {B : Nat → Nat} {q : hT} {t : Int32} {R : va_W}
theorem l_own (h : mS g B q t R ws) {j : Int32} (k0 : ∀ (c : Nat) (x : zOD), j = nI c → q.2.2.1[c]? = some x → ∀ w, mS g B q 0 R w → post (some (.int (x.1 + 65536 * x.2.2.1))) w) (k1 : ¬ (¬ j < 0 ∧ j < nI q.2.2.1.length) → ∀ w, mS g B q 1 R w → post (some (.int 0)) w) : zC g i_Mo_own [.ref (B 0), .int j] ws post := by
  obtain ⟨m, F, hr, hs⟩ := h
  have h5 := hr.2.2.1.2.1
  refine c_Mo_own hs hr.2.2.1.1 (by omega) (fun c hj hc w hw => ?_) (fun hn w hw => k1 hn w ⟨_, _, hr.thrown, hw⟩)
  have hx : q.2.2.1[c]? = some q.2.2.1[c] := List.getElem?_eq_getElem hc
  rw [hr.2.2.1.2.2.1 c _ hx, hr.2.2.1.2.2.2.1 c _ hx]
  exact k0 c _ hj hx w ⟨_, _, hr.thrown, hw⟩
theorem l_until (h : mS g B q t R ws) {j : Int32} (hv : ∀ x ∈ q.2.2.1, x.2.2.2.1 = 2147483647 ∨ x.2.2.2.1 < 2000000000) (k0 : ∀ (c : Nat) (x : zOD), j = nI c → q.2.2.1[c]? = some x → ∀ w, mS g B q 0 R w → post (some (.int (if x.2.2.2.1 = 2147483647 then -1 else x.2.2.2.1))) w) (k1 : ¬ (¬ j < 0 ∧ j < nI q.2.2.1.length) → ∀ w, mS g B q 1 R w → post (some (.int 0)) w) : zC g i_Mo_until [.ref (B 0), .int j] ws post := by
  obtain ⟨m, F, hr, hs⟩ := h
  have h5 := hr.2.2.1.2.1
  refine c_Mo_until hs hr.2.2.1.1 (by omega) (fun c hj hc w hw => ?_) (fun hn w hw => k1 hn w ⟨_, _, hr.thrown, hw⟩)
  have hx : q.2.2.1[c]? = some q.2.2.1[c] := List.getElem?_eq_getElem hc
  rw [hr.2.2.1.2.2.2.2.2.2 c _ hx]
  have hv1 := hv _ (List.mem_of_getElem? hx)
  have kk := k0 c _ hj hx w ⟨_, _, hr.thrown, hw⟩
  generalize q.2.2.1[c] = x at kk hv1 ⊢
  have he : (if cv x.2.2.2.1 = 2000000000 then -1 else cv x.2.2.2.1) = if x.2.2.2.1 = 2147483647 then -1 else x.2.2.2.1 := by
    unfold cv
    by_cases h1 : x.2.2.2.1 = 2147483647
    · rw [if_pos h1, if_pos h1, if_pos rfl]
    · rw [if_neg h1, if_neg h1, if_neg]
      intro h2
      rcases hv1 with h3 | h3
      · exact h1 h3
      · rw [h2] at h3
        exact absurd h3 (by decide)
  show post (some (.int (if cv x.2.2.2.1 = 2000000000 then -1 else cv x.2.2.2.1))) w
  rw [he]
  exact kk
theorem l_outKind (h : mS g B q t R ws) (hu : q.2.1.1 < 2147483648) {j : Int32} (k0 : ∀ c : Nat, j = nI c → c < min q.2.1.1 12 → ∀ w, mS g B q 0 R w → post (some (.int (q.2.1.2.1 ((q.2.1.1 % 12 + 23 - c) % 12)))) w) (k1 : ¬ (¬ j < 0 ∧ j < nI (min q.2.1.1 12)) → ∀ w, mS g B q 1 R w → post (some (.int 0)) w) : zC g i_Mo_outKind [.ref (B 0), .int j] ws post := by
  obtain ⟨m, F, hr, hs⟩ := h
  refine c_Mo_outKind hs hr.2.1.1 hu (fun c hj hc w hw => ?_) (fun hn w hw => k1 hn w ⟨_, _, hr.thrown, hw⟩)
  rw [hr.2.1.2.1]
  exact k0 c hj hc w ⟨_, _, hr.thrown, hw⟩
theorem l_outTo (h : mS g B q t R ws) (hu : q.2.1.1 < 2147483648) {j : Int32} (k0 : ∀ c : Nat, j = nI c → c < min q.2.1.1 12 → ∀ w, mS g B q 0 R w → post (some (.int (q.2.1.2.2.1 ((q.2.1.1 % 12 + 23 - c) % 12)))) w) (k1 : ¬ (¬ j < 0 ∧ j < nI (min q.2.1.1 12)) → ∀ w, mS g B q 1 R w → post (some (.int 0)) w) : zC g i_Mo_outTo [.ref (B 0), .int j] ws post := by
  obtain ⟨m, F, hr, hs⟩ := h
  refine c_Mo_outTo hs hr.2.1.1 hu (fun c hj hc w hw => ?_) (fun hn w hw => k1 hn w ⟨_, _, hr.thrown, hw⟩)
  rw [hr.2.1.2.2.1]
  exact k0 c hj hc w ⟨_, _, hr.thrown, hw⟩
theorem l_outX (h : mS g B q t R ws) (hu : q.2.1.1 < 2147483648) {j : Int32} (k0 : ∀ c : Nat, j = nI c → c < min q.2.1.1 12 → ∀ w, mS g B q 0 R w → post (some (.int (q.2.1.2.2.2 ((q.2.1.1 % 12 + 23 - c) % 12)))) w) (k1 : ¬ (¬ j < 0 ∧ j < nI (min q.2.1.1 12)) → ∀ w, mS g B q 1 R w → post (some (.int 0)) w) : zC g i_Mo_outX [.ref (B 0), .int j] ws post := by
  obtain ⟨m, F, hr, hs⟩ := h
  refine c_Mo_outX hs hr.2.1.1 hu (fun c hj hc w hw => ?_) (fun hn w hw => k1 hn w ⟨_, _, hr.thrown, hw⟩)
  rw [hr.2.1.2.2.2]
  exact k0 c hj hc w ⟨_, _, hr.thrown, hw⟩
theorem l_header (h : mS g B q t R ws) {a b : Int32} (k0 : (zwithin a 0 9 = true ∧ zwithin b 0 3 = true) → q.2.2.2.2.2.2.2.1 < 6 → ∀ w, mS g B (headT q a b) 0 R w → post (some (.int (nI (q.2.2.2.2.2.2.2.1 + 1)))) w) (k1 : ¬ (zwithin a 0 9 = true ∧ zwithin b 0 3 = true) → ∀ w, mS g B q 1 R w → post (some (.int 0)) w) (k2 : (zwithin a 0 9 = true ∧ zwithin b 0 3 = true) → ¬ q.2.2.2.2.2.2.2.1 < 6 → ∀ w, mS g B q 2 R w → post (some (.int 0)) w) : zC g i_Mo_header [.ref (B 0), .int a, .int b] ws post := by
  obtain ⟨m, F, hr, hs⟩ := h
  refine c_Mo_header hs hr.2.2.2.2.2.1 hr.2.2.2.2.2.2.1 (fun hv h6 w hw => ?_) (fun hv w hw => k1 hv w ⟨_, _, hr.thrown, hw⟩) (fun hv h6 w hw => k2 hv (by omega) w ⟨_, _, hr.thrown, hw⟩)
  have h1 : mR q 0 (mup m 0 0) F := hr.thrown
  exact k0 hv h6 w ⟨_, _, h1.header h6, hw⟩
end ZAsk2
