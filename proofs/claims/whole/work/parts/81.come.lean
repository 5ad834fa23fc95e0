/-! The model by states: headers (walks by a program, gen81.py). -/
theorem l_fault {g : zG} {ws : va_W} {post : Option Value → va_W → Prop} {B : Nat → Nat} {q : hT} {t : Int32} {R : va_W} (h : mS g B q t R ws) {fr i f : Int32} {gr : Bool} (hu : q.2.1.1 < 2147483648) (k : ∀ w, mS g B (faultT q i f fr gr) t R w → post none w) : zC g i_Mo_fault [.ref (B 0), .int fr, .int i, .int f, .int (zb gr)] ws post := by
  refine zC.intro (by decide +kernel) rfl (Nat.le_of_ble_eq_true rfl) fun x0 hq => ?_
  obtain ⟨m, F, hr, hs⟩ := h
  have hb := hr.1.2.2.2.2.2.1
  refine zo_iload_n (i := i_Mo_fault) (pc := 0) d_Mo_fault_0 rfl ?_
  refine zo_if_eq (i := i_Mo_fault) (pc := 1) (tgt := 44) d_Mo_fault_1 (by decide) (fun h1 => ?_) (fun h1 => ?_)
  · refine zo_return (i := i_Mo_fault) (pc := 44) hq d_Mo_fault_44 rfl (Nat.le_of_ble_eq_true rfl) (Nat.le_of_ble_eq_true rfl) ?_
    have he : faultT q i f fr gr = q := by unfold faultT; rw [if_neg (fun hh => hh.2.1 h1)]
    rw [he] at k
    exact k ws ⟨_, _, hr, hs⟩
  · refine zo_iload (i := i_Mo_fault) (pc := 4) d_Mo_fault_4 rfl ?_
    refine zo_if_eq (i := i_Mo_fault) (pc := 6) (tgt := 14) d_Mo_fault_6 (by decide) (fun h6 => ?_) (fun h6 => ?_)
    · refine zo_aload_n (i := i_Mo_fault) (pc := 14) d_Mo_fault_14 rfl rfl ?_
      refine zo_get (i := i_Mo_fault) (pc := 15) 10 5 rfl zok_Mo (Nat.le_of_ble_eq_true rfl) (ztb_of k_863 rfl) d_Mo_fault_15 (fun _ _ _ h => h) (hs.get (t := 0) rfl) rfl ?_
      refine zo_if_le (i := i_Mo_fault) (pc := 18) (tgt := 44) d_Mo_fault_18 (by decide) (fun h18 => ?_) (fun h18 => ?_)
      · refine zo_return (i := i_Mo_fault) (pc := 44) hq d_Mo_fault_44 rfl (Nat.le_of_ble_eq_true rfl) (Nat.le_of_ble_eq_true rfl) ?_
        rw [hb] at h18
        have he : faultT q i f fr gr = q := by unfold faultT; rw [if_neg (fun hh => hh.2.2 h18)]
        rw [he] at k
        exact k ws ⟨_, _, hr, hs⟩
      · refine zo_aload_n (i := i_Mo_fault) (pc := 21) d_Mo_fault_21 rfl rfl ?_
        refine zo_dup (i := i_Mo_fault) (pc := 22) d_Mo_fault_22 rfl ?_
        refine zo_get (i := i_Mo_fault) (pc := 23) 10 5 rfl zok_Mo (Nat.le_of_ble_eq_true rfl) (ztb_of k_863 rfl) d_Mo_fault_23 (fun _ _ _ h => h) (hs.get (t := 0) rfl) rfl ?_
        refine zo_iconst (i := i_Mo_fault) (pc := 26) (v := 1) d_Mo_fault_26 (by decide) ?_
        refine zo_isub (i := i_Mo_fault) (pc := 27) d_Mo_fault_27 ?_
        refine zh_put (i := i_Mo_fault) (pc := 28) 10 5 rfl zok_Mo (Nat.le_of_ble_eq_true rfl) (ztb_of k_863 rfl) rfl d_Mo_fault_28 (fun _ _ _ h => h) (t_Mo_ok 5 (Nat.le_of_ble_eq_true rfl)) rfl rfl hs 0 rfl (Nat.le_of_ble_eq_true rfl) fun ws hs => ?_
        refine zo_aload_n (i := i_Mo_fault) (pc := 31) d_Mo_fault_31 rfl rfl ?_
        refine zo_bipush (i := i_Mo_fault) (pc := 32) (v := 6) d_Mo_fault_32 (by decide) ?_
        refine zo_iload_n (i := i_Mo_fault) (pc := 34) d_Mo_fault_34 rfl ?_
        refine zo_bipush (i := i_Mo_fault) (pc := 35) (v := 16) d_Mo_fault_35 (by decide) ?_
        refine zo_iload_n (i := i_Mo_fault) (pc := 37) d_Mo_fault_37 rfl ?_
        refine zo_imul (i := i_Mo_fault) (pc := 38) d_Mo_fault_38 ?_
        refine zo_iload_n (i := i_Mo_fault) (pc := 39) d_Mo_fault_39 rfl ?_
        refine zo_iadd (i := i_Mo_fault) (pc := 40) d_Mo_fault_40 ?_
        replace hs : zHas ws (moW g B (mup m 5 (m 5 - 1)) F ++ R) := hs
        obtain ⟨b0, b1, b2, b3, b4, b5, b6, b7⟩ := hr.1
        have hr1 : mR (tS q (fbS q.1 (q.1.2.2.2.2.2.1 - 1))) t (mup m 5 (m 5 - 1)) F := hr.setS ⟨b0, b1, b2, b3, b4, (by show m 5 - 1 = _; rw [b5]; rfl), b6, b7⟩ (fun k hk => mup_ne (by omega))
        refine zc_V3 (i := i_Mo_fault) (pc := 41) 10 rfl m_Mo_out (ztb_of k_854 rfl) (ztb_of k_856 rfl) s_Mo_out d_Mo_fault_41 (Nat.le_of_ble_eq_true rfl) (Nat.le_of_ble_eq_true rfl) (Nat.le_of_ble_eq_true rfl) (Nat.le_of_ble_eq_true rfl) (hs.get (t := 0) rfl) (l_out ⟨_, _, hr1, hs⟩ (by exact hu) fun ws hS => ?_)
        refine zo_return (i := i_Mo_fault) (pc := 44) hq d_Mo_fault_44 rfl (Nat.le_of_ble_eq_true rfl) (Nat.le_of_ble_eq_true rfl) ?_
        rw [hb] at h18
        have he : faultT q i f fr gr = tU (tS q (fbS q.1 (q.1.2.2.2.2.2.1 - 1))) (ouAdd q.2.1 6 fr (16 * i + f)) := by unfold faultT; rw [if_pos ⟨(.inl (zb_eq h6)), h1, h18⟩]
        rw [he] at k
        exact k ws hS
    · refine zo_iload_n (i := i_Mo_fault) (pc := 9) d_Mo_fault_9 rfl ?_
      refine zo_iconst (i := i_Mo_fault) (pc := 10) (v := 2) d_Mo_fault_10 (by decide) ?_
      refine zo_icmp_ne (i := i_Mo_fault) (pc := 11) (tgt := 44) d_Mo_fault_11 (by decide) (fun h11 => ?_) (fun h11 => ?_)
      · refine zo_return (i := i_Mo_fault) (pc := 44) hq d_Mo_fault_44 rfl (Nat.le_of_ble_eq_true rfl) (Nat.le_of_ble_eq_true rfl) ?_
        have he : faultT q i f fr gr = q := by unfold faultT; rw [if_neg (fun hh => hh.1.elim (fun h => absurd (zb_ne h6) (by rw [h]; decide)) h11)]
        rw [he] at k
        exact k ws ⟨_, _, hr, hs⟩
      · refine zo_aload_n (i := i_Mo_fault) (pc := 14) d_Mo_fault_14 rfl rfl ?_
        refine zo_get (i := i_Mo_fault) (pc := 15) 10 5 rfl zok_Mo (Nat.le_of_ble_eq_true rfl) (ztb_of k_863 rfl) d_Mo_fault_15 (fun _ _ _ h => h) (hs.get (t := 0) rfl) rfl ?_
        refine zo_if_le (i := i_Mo_fault) (pc := 18) (tgt := 44) d_Mo_fault_18 (by decide) (fun h18 => ?_) (fun h18 => ?_)
        · refine zo_return (i := i_Mo_fault) (pc := 44) hq d_Mo_fault_44 rfl (Nat.le_of_ble_eq_true rfl) (Nat.le_of_ble_eq_true rfl) ?_
          rw [hb] at h18
          have he : faultT q i f fr gr = q := by unfold faultT; rw [if_neg (fun hh => hh.2.2 h18)]
          rw [he] at k
          exact k ws ⟨_, _, hr, hs⟩
        · refine zo_aload_n (i := i_Mo_fault) (pc := 21) d_Mo_fault_21 rfl rfl ?_
          refine zo_dup (i := i_Mo_fault) (pc := 22) d_Mo_fault_22 rfl ?_
          refine zo_get (i := i_Mo_fault) (pc := 23) 10 5 rfl zok_Mo (Nat.le_of_ble_eq_true rfl) (ztb_of k_863 rfl) d_Mo_fault_23 (fun _ _ _ h => h) (hs.get (t := 0) rfl) rfl ?_
          refine zo_iconst (i := i_Mo_fault) (pc := 26) (v := 1) d_Mo_fault_26 (by decide) ?_
          refine zo_isub (i := i_Mo_fault) (pc := 27) d_Mo_fault_27 ?_
          refine zh_put (i := i_Mo_fault) (pc := 28) 10 5 rfl zok_Mo (Nat.le_of_ble_eq_true rfl) (ztb_of k_863 rfl) rfl d_Mo_fault_28 (fun _ _ _ h => h) (t_Mo_ok 5 (Nat.le_of_ble_eq_true rfl)) rfl rfl hs 0 rfl (Nat.le_of_ble_eq_true rfl) fun ws hs => ?_
          refine zo_aload_n (i := i_Mo_fault) (pc := 31) d_Mo_fault_31 rfl rfl ?_
          refine zo_bipush (i := i_Mo_fault) (pc := 32) (v := 6) d_Mo_fault_32 (by decide) ?_
          refine zo_iload_n (i := i_Mo_fault) (pc := 34) d_Mo_fault_34 rfl ?_
          refine zo_bipush (i := i_Mo_fault) (pc := 35) (v := 16) d_Mo_fault_35 (by decide) ?_
          refine zo_iload_n (i := i_Mo_fault) (pc := 37) d_Mo_fault_37 rfl ?_
          refine zo_imul (i := i_Mo_fault) (pc := 38) d_Mo_fault_38 ?_
          refine zo_iload_n (i := i_Mo_fault) (pc := 39) d_Mo_fault_39 rfl ?_
          refine zo_iadd (i := i_Mo_fault) (pc := 40) d_Mo_fault_40 ?_
          replace hs : zHas ws (moW g B (mup m 5 (m 5 - 1)) F ++ R) := hs
          obtain ⟨b0, b1, b2, b3, b4, b5, b6, b7⟩ := hr.1
          have hr1 : mR (tS q (fbS q.1 (q.1.2.2.2.2.2.1 - 1))) t (mup m 5 (m 5 - 1)) F := hr.setS ⟨b0, b1, b2, b3, b4, (by show m 5 - 1 = _; rw [b5]; rfl), b6, b7⟩ (fun k hk => mup_ne (by omega))
          refine zc_V3 (i := i_Mo_fault) (pc := 41) 10 rfl m_Mo_out (ztb_of k_854 rfl) (ztb_of k_856 rfl) s_Mo_out d_Mo_fault_41 (Nat.le_of_ble_eq_true rfl) (Nat.le_of_ble_eq_true rfl) (Nat.le_of_ble_eq_true rfl) (Nat.le_of_ble_eq_true rfl) (hs.get (t := 0) rfl) (l_out ⟨_, _, hr1, hs⟩ (by exact hu) fun ws hS => ?_)
          refine zo_return (i := i_Mo_fault) (pc := 44) hq d_Mo_fault_44 rfl (Nat.le_of_ble_eq_true rfl) (Nat.le_of_ble_eq_true rfl) ?_
          rw [hb] at h18
          have he : faultT q i f fr gr = tU (tS q (fbS q.1 (q.1.2.2.2.2.2.1 - 1))) (ouAdd q.2.1 6 fr (16 * i + f)) := by unfold faultT; rw [if_pos ⟨(.inr h11), h1, h18⟩]
          rw [he] at k
          exact k ws hS
theorem l_look {g : zG} {ws : va_W} {post : Option Value → va_W → Prop} {B : Nat → Nat} {q : hT} {t : Int32} {R : va_W} (h : mS g B q t R ws) {i : Nat} {gr : Bool} (hi : i < 6) (k : post (some (.int (lkV (q.2.2.2.2.2.2.2.2.1 i) (q.2.2.2.2.2.2.2.2.2 i) i gr))) ws) : zC g i_Mo_look [.ref (B 0), .int (nI i), .int (zb gr)] ws post := by
  refine zC.intro (by decide +kernel) rfl (Nat.le_of_ble_eq_true rfl) fun x0 hq => ?_
  obtain ⟨m, F, hr, hs⟩ := h
  have e30 : F 30 (nI i).toNatClampNeg = q.2.2.2.2.2.2.2.2.1 i := by rw [nI_clamp (by omega), hr.2.2.2.2.2.2.2.1]
  have e31 : F 31 (nI i).toNatClampNeg = q.2.2.2.2.2.2.2.2.2 i := by rw [nI_clamp (by omega), hr.2.2.2.2.2.2.2.2]
  generalize q.2.2.2.2.2.2.2.2.1 i = kd at e30 k
  generalize q.2.2.2.2.2.2.2.2.2 i = x at e31 k
  refine zo_aload_n (i := i_Mo_look) (pc := 0) d_Mo_look_0 rfl rfl ?_
  refine zo_get (i := i_Mo_look) (pc := 1) 10 31 rfl zok_Mo (Nat.le_of_ble_eq_true rfl) (ztb_of k_889 rfl) d_Mo_look_1 (fun _ _ _ h => h) (hs.get (t := 0) rfl) rfl ?_
  refine zo_iload_n (i := i_Mo_look) (pc := 4) d_Mo_look_4 rfl ?_
  refine zo_iaload (i := i_Mo_look) (pc := 5) d_Mo_look_5 (hs.get (t := 20) rfl) (vp_in_nI (by omega) (by decide)) ?_
  rw [e31]
  refine zo_istore_n (i := i_Mo_look) (pc := 6) d_Mo_look_6 (Nat.le_of_ble_eq_true rfl) ?_
  refine zo_aload_n (i := i_Mo_look) (pc := 7) d_Mo_look_7 rfl rfl ?_
  refine zo_get (i := i_Mo_look) (pc := 8) 10 30 rfl zok_Mo (Nat.le_of_ble_eq_true rfl) (ztb_of k_888 rfl) d_Mo_look_8 (fun _ _ _ h => h) (hs.get (t := 0) rfl) rfl ?_
  refine zo_iload_n (i := i_Mo_look) (pc := 11) d_Mo_look_11 rfl ?_
  refine zo_iaload (i := i_Mo_look) (pc := 12) d_Mo_look_12 (hs.get (t := 19) rfl) (vp_in_nI (by omega) (by decide)) ?_
  rw [e30]
  rcases zsw_0_6 kd with h13 | h13 | h13 | h13 | h13 | h13 | h13 | h13
  · rw [h13]
    refine zo_tableIn (i := i_Mo_look) (pc := 13) (off := 43) (tgt := 56) d_Mo_look_13 (by decide) (by decide) rfl (by decide) ?_
    refine zo_iload_n (i := i_Mo_look) (pc := 56) d_Mo_look_56 rfl ?_
    refine zo_if_le (i := i_Mo_look) (pc := 57) (tgt := 64) d_Mo_look_57 (by decide) (fun h57 => ?_) (fun h57 => ?_)
    · refine zo_iload_n (i := i_Mo_look) (pc := 64) d_Mo_look_64 rfl ?_
      refine zo_iconst (i := i_Mo_look) (pc := 65) (v := 2) d_Mo_look_65 (by decide) ?_
      refine zo_icmp_ge (i := i_Mo_look) (pc := 66) (tgt := 73) d_Mo_look_66 (by decide) (fun h66 => ?_) (fun h66 => ?_)
      · refine zo_iload_n (i := i_Mo_look) (pc := 73) d_Mo_look_73 rfl ?_
        refine zo_iconst (i := i_Mo_look) (pc := 74) (v := 2) d_Mo_look_74 (by decide) ?_
        refine zo_icmp_eq (i := i_Mo_look) (pc := 75) (tgt := 82) d_Mo_look_75 (by decide) (fun h75 => ?_) (fun h75 => ?_)
        · refine zo_iconst (i := i_Mo_look) (pc := 82) (v := 4) d_Mo_look_82 (by decide) ?_
          refine zo_goto (i := i_Mo_look) (pc := 83) (tgt := 87) d_Mo_look_83 (by decide) ?_
          refine zo_ireturn (i := i_Mo_look) (pc := 87) hq d_Mo_look_87 rfl (Nat.le_of_ble_eq_true rfl) (Nat.le_of_ble_eq_true rfl) ?_
          have hi0 : i = 0 := by
            rcases Nat.eq_zero_or_pos i with h | h
            · exact h
            · exact absurd h57 (nI_nle h (by omega))
          have he : lkV kd x i gr = 4 := by unfold lkV; rw [if_pos h13, if_pos hi0, if_neg (Int32.not_lt.mpr h66), if_pos (.inl h75)]
          rw [← he]
          exact k
        · refine zo_iload_n (i := i_Mo_look) (pc := 78) d_Mo_look_78 rfl ?_
          refine zo_if_ne (i := i_Mo_look) (pc := 79) (tgt := 86) d_Mo_look_79 (by decide) (fun h79 => ?_) (fun h79 => ?_)
          · refine zo_iconst (i := i_Mo_look) (pc := 86) (v := 1) d_Mo_look_86 (by decide) ?_
            refine zo_ireturn (i := i_Mo_look) (pc := 87) hq d_Mo_look_87 rfl (Nat.le_of_ble_eq_true rfl) (Nat.le_of_ble_eq_true rfl) ?_
            have hi0 : i = 0 := by
              rcases Nat.eq_zero_or_pos i with h | h
              · exact h
              · exact absurd h57 (nI_nle h (by omega))
            have he : lkV kd x i gr = 1 := by unfold lkV; rw [if_pos h13, if_pos hi0, if_neg (Int32.not_lt.mpr h66), if_neg (fun hh => hh.elim h75 (fun h => absurd (zb_ne h79) (by rw [h]; decide)))]
            rw [← he]
            exact k
          · refine zo_iconst (i := i_Mo_look) (pc := 82) (v := 4) d_Mo_look_82 (by decide) ?_
            refine zo_goto (i := i_Mo_look) (pc := 83) (tgt := 87) d_Mo_look_83 (by decide) ?_
            refine zo_ireturn (i := i_Mo_look) (pc := 87) hq d_Mo_look_87 rfl (Nat.le_of_ble_eq_true rfl) (Nat.le_of_ble_eq_true rfl) ?_
            have hi0 : i = 0 := by
              rcases Nat.eq_zero_or_pos i with h | h
              · exact h
              · exact absurd h57 (nI_nle h (by omega))
            have he : lkV kd x i gr = 4 := by unfold lkV; rw [if_pos h13, if_pos hi0, if_neg (Int32.not_lt.mpr h66), if_pos (.inr (zb_eq h79))]
            rw [← he]
            exact k
      · refine zo_iload_n (i := i_Mo_look) (pc := 69) d_Mo_look_69 rfl ?_
        refine zo_goto (i := i_Mo_look) (pc := 70) (tgt := 87) d_Mo_look_70 (by decide) ?_
        refine zo_ireturn (i := i_Mo_look) (pc := 87) hq d_Mo_look_87 rfl (Nat.le_of_ble_eq_true rfl) (Nat.le_of_ble_eq_true rfl) ?_
        have hi0 : i = 0 := by
          rcases Nat.eq_zero_or_pos i with h | h
          · exact h
          · exact absurd h57 (nI_nle h (by omega))
        have he : lkV kd x i gr = x := by unfold lkV; rw [if_pos h13, if_pos hi0, if_pos (Int32.not_le.mp h66)]
        rw [← he]
        exact k
    · refine zo_iconst (i := i_Mo_look) (pc := 60) (v := 3) d_Mo_look_60 (by decide) ?_
      refine zo_goto (i := i_Mo_look) (pc := 61) (tgt := 87) d_Mo_look_61 (by decide) ?_
      refine zo_ireturn (i := i_Mo_look) (pc := 87) hq d_Mo_look_87 rfl (Nat.le_of_ble_eq_true rfl) (Nat.le_of_ble_eq_true rfl) ?_
      have he : lkV kd x i gr = 3 := by unfold lkV; rw [if_pos h13, if_neg (fun hh => h57 (by rw [hh]; decide))]
      rw [← he]
      exact k
  · rw [h13]
    refine zo_tableIn (i := i_Mo_look) (pc := 13) (off := 75) (tgt := 88) d_Mo_look_13 (by decide) (by decide) rfl (by decide) ?_
    refine zo_iload_n (i := i_Mo_look) (pc := 88) d_Mo_look_88 rfl ?_
    refine zo_iconst (i := i_Mo_look) (pc := 89) (v := 2) d_Mo_look_89 (by decide) ?_
    refine zo_icmp_ge (i := i_Mo_look) (pc := 90) (tgt := 97) d_Mo_look_90 (by decide) (fun h90 => ?_) (fun h90 => ?_)
    · refine zo_iload_n (i := i_Mo_look) (pc := 97) d_Mo_look_97 rfl ?_
      refine zo_iconst (i := i_Mo_look) (pc := 98) (v := 2) d_Mo_look_98 (by decide) ?_
      refine zo_icmp_eq (i := i_Mo_look) (pc := 99) (tgt := 106) d_Mo_look_99 (by decide) (fun h99 => ?_) (fun h99 => ?_)
      · refine zo_iconst (i := i_Mo_look) (pc := 106) (v := 4) d_Mo_look_106 (by decide) ?_
        refine zo_goto (i := i_Mo_look) (pc := 107) (tgt := 111) d_Mo_look_107 (by decide) ?_
        refine zo_ireturn (i := i_Mo_look) (pc := 111) hq d_Mo_look_111 rfl (Nat.le_of_ble_eq_true rfl) (Nat.le_of_ble_eq_true rfl) ?_
        have he : lkV kd x i gr = 4 := by unfold lkV; rw [if_neg (show ¬ kd = 0 by rw [h13]; decide), if_pos h13, if_neg (Int32.not_lt.mpr h90), if_pos (.inl h99)]
        rw [← he]
        exact k
      · refine zo_iload_n (i := i_Mo_look) (pc := 102) d_Mo_look_102 rfl ?_
        refine zo_if_ne (i := i_Mo_look) (pc := 103) (tgt := 110) d_Mo_look_103 (by decide) (fun h103 => ?_) (fun h103 => ?_)
        · refine zo_iconst (i := i_Mo_look) (pc := 110) (v := 1) d_Mo_look_110 (by decide) ?_
          refine zo_ireturn (i := i_Mo_look) (pc := 111) hq d_Mo_look_111 rfl (Nat.le_of_ble_eq_true rfl) (Nat.le_of_ble_eq_true rfl) ?_
          have he : lkV kd x i gr = 1 := by unfold lkV; rw [if_neg (show ¬ kd = 0 by rw [h13]; decide), if_pos h13, if_neg (Int32.not_lt.mpr h90), if_neg (fun hh => hh.elim h99 (fun h => absurd (zb_ne h103) (by rw [h]; decide)))]
          rw [← he]
          exact k
        · refine zo_iconst (i := i_Mo_look) (pc := 106) (v := 4) d_Mo_look_106 (by decide) ?_
          refine zo_goto (i := i_Mo_look) (pc := 107) (tgt := 111) d_Mo_look_107 (by decide) ?_
          refine zo_ireturn (i := i_Mo_look) (pc := 111) hq d_Mo_look_111 rfl (Nat.le_of_ble_eq_true rfl) (Nat.le_of_ble_eq_true rfl) ?_
          have he : lkV kd x i gr = 4 := by unfold lkV; rw [if_neg (show ¬ kd = 0 by rw [h13]; decide), if_pos h13, if_neg (Int32.not_lt.mpr h90), if_pos (.inr (zb_eq h103))]
          rw [← he]
          exact k
    · refine zo_iload_n (i := i_Mo_look) (pc := 93) d_Mo_look_93 rfl ?_
      refine zo_goto (i := i_Mo_look) (pc := 94) (tgt := 111) d_Mo_look_94 (by decide) ?_
      refine zo_ireturn (i := i_Mo_look) (pc := 111) hq d_Mo_look_111 rfl (Nat.le_of_ble_eq_true rfl) (Nat.le_of_ble_eq_true rfl) ?_
      have he : lkV kd x i gr = x := by unfold lkV; rw [if_neg (show ¬ kd = 0 by rw [h13]; decide), if_pos h13, if_pos (Int32.not_le.mp h90)]
      rw [← he]
      exact k
  · rw [h13]
    refine zo_tableIn (i := i_Mo_look) (pc := 13) (off := 99) (tgt := 112) d_Mo_look_13 (by decide) (by decide) rfl (by decide) ?_
    refine zo_iload_n (i := i_Mo_look) (pc := 112) d_Mo_look_112 rfl ?_
    refine zo_if_ne (i := i_Mo_look) (pc := 113) (tgt := 120) d_Mo_look_113 (by decide) (fun h113 => ?_) (fun h113 => ?_)
    · refine zo_iconst (i := i_Mo_look) (pc := 120) (v := 2) d_Mo_look_120 (by decide) ?_
      refine zo_ireturn (i := i_Mo_look) (pc := 121) hq d_Mo_look_121 rfl (Nat.le_of_ble_eq_true rfl) (Nat.le_of_ble_eq_true rfl) ?_
      have he : lkV kd x i gr = 2 := by unfold lkV; rw [if_neg (show ¬ kd = 0 by rw [h13]; decide), if_neg (show ¬ kd = 1 by rw [h13]; decide), if_pos h13, if_neg h113]
      rw [← he]
      exact k
    · refine zo_iconst (i := i_Mo_look) (pc := 116) (v := 0) d_Mo_look_116 (by decide) ?_
      refine zo_goto (i := i_Mo_look) (pc := 117) (tgt := 121) d_Mo_look_117 (by decide) ?_
      refine zo_ireturn (i := i_Mo_look) (pc := 121) hq d_Mo_look_121 rfl (Nat.le_of_ble_eq_true rfl) (Nat.le_of_ble_eq_true rfl) ?_
      have he : lkV kd x i gr = 0 := by unfold lkV; rw [if_neg (show ¬ kd = 0 by rw [h13]; decide), if_neg (show ¬ kd = 1 by rw [h13]; decide), if_pos h13, if_pos h113]
      rw [← he]
      exact k
  · rw [h13]
    refine zo_tableIn (i := i_Mo_look) (pc := 13) (off := 109) (tgt := 122) d_Mo_look_13 (by decide) (by decide) rfl (by decide) ?_
    refine zo_iload_n (i := i_Mo_look) (pc := 122) d_Mo_look_122 rfl ?_
    refine zo_if_ne (i := i_Mo_look) (pc := 123) (tgt := 130) d_Mo_look_123 (by decide) (fun h123 => ?_) (fun h123 => ?_)
    · refine zo_iconst (i := i_Mo_look) (pc := 130) (v := 1) d_Mo_look_130 (by decide) ?_
      refine zo_ireturn (i := i_Mo_look) (pc := 131) hq d_Mo_look_131 rfl (Nat.le_of_ble_eq_true rfl) (Nat.le_of_ble_eq_true rfl) ?_
      have he : lkV kd x i gr = 1 := by unfold lkV; rw [if_neg (show ¬ kd = 0 by rw [h13]; decide), if_neg (show ¬ kd = 1 by rw [h13]; decide), if_neg (show ¬ kd = 2 by rw [h13]; decide), if_pos h13, if_neg h123]
      rw [← he]
      exact k
    · refine zo_iconst (i := i_Mo_look) (pc := 126) (v := 0) d_Mo_look_126 (by decide) ?_
      refine zo_goto (i := i_Mo_look) (pc := 127) (tgt := 131) d_Mo_look_127 (by decide) ?_
      refine zo_ireturn (i := i_Mo_look) (pc := 131) hq d_Mo_look_131 rfl (Nat.le_of_ble_eq_true rfl) (Nat.le_of_ble_eq_true rfl) ?_
      have he : lkV kd x i gr = 0 := by unfold lkV; rw [if_neg (show ¬ kd = 0 by rw [h13]; decide), if_neg (show ¬ kd = 1 by rw [h13]; decide), if_neg (show ¬ kd = 2 by rw [h13]; decide), if_pos h13, if_pos h123]
      rw [← he]
      exact k
  · rw [h13]
    refine zo_tableIn (i := i_Mo_look) (pc := 13) (off := 119) (tgt := 132) d_Mo_look_13 (by decide) (by decide) rfl (by decide) ?_
    refine zo_iconst (i := i_Mo_look) (pc := 132) (v := 1) d_Mo_look_132 (by decide) ?_
    refine zo_ireturn (i := i_Mo_look) (pc := 133) hq d_Mo_look_133 rfl (Nat.le_of_ble_eq_true rfl) (Nat.le_of_ble_eq_true rfl) ?_
    have he : lkV kd x i gr = 1 := by unfold lkV; rw [if_neg (show ¬ kd = 0 by rw [h13]; decide), if_neg (show ¬ kd = 1 by rw [h13]; decide), if_neg (show ¬ kd = 2 by rw [h13]; decide), if_neg (show ¬ kd = 3 by rw [h13]; decide), if_pos (.inl h13)]
    rw [← he]
    exact k
  · rw [h13]
    refine zo_tableIn (i := i_Mo_look) (pc := 13) (off := 119) (tgt := 132) d_Mo_look_13 (by decide) (by decide) rfl (by decide) ?_
    refine zo_iconst (i := i_Mo_look) (pc := 132) (v := 1) d_Mo_look_132 (by decide) ?_
    refine zo_ireturn (i := i_Mo_look) (pc := 133) hq d_Mo_look_133 rfl (Nat.le_of_ble_eq_true rfl) (Nat.le_of_ble_eq_true rfl) ?_
    have he : lkV kd x i gr = 1 := by unfold lkV; rw [if_neg (show ¬ kd = 0 by rw [h13]; decide), if_neg (show ¬ kd = 1 by rw [h13]; decide), if_neg (show ¬ kd = 2 by rw [h13]; decide), if_neg (show ¬ kd = 3 by rw [h13]; decide), if_pos (.inr (.inl h13))]
    rw [← he]
    exact k
  · rw [h13]
    refine zo_tableIn (i := i_Mo_look) (pc := 13) (off := 119) (tgt := 132) d_Mo_look_13 (by decide) (by decide) rfl (by decide) ?_
    refine zo_iconst (i := i_Mo_look) (pc := 132) (v := 1) d_Mo_look_132 (by decide) ?_
    refine zo_ireturn (i := i_Mo_look) (pc := 133) hq d_Mo_look_133 rfl (Nat.le_of_ble_eq_true rfl) (Nat.le_of_ble_eq_true rfl) ?_
    have he : lkV kd x i gr = 1 := by unfold lkV; rw [if_neg (show ¬ kd = 0 by rw [h13]; decide), if_neg (show ¬ kd = 1 by rw [h13]; decide), if_neg (show ¬ kd = 2 by rw [h13]; decide), if_neg (show ¬ kd = 3 by rw [h13]; decide), if_pos (.inr (.inr h13))]
    rw [← he]
    exact k
  · refine zo_tableOut (i := i_Mo_look) (pc := 13) (tgt := 134) d_Mo_look_13 h13 (by decide) ?_
    refine zo_iconst (i := i_Mo_look) (pc := 134) (v := 3) d_Mo_look_134 (by decide) ?_
    refine zo_ireturn (i := i_Mo_look) (pc := 135) hq d_Mo_look_135 rfl (Nat.le_of_ble_eq_true rfl) (Nat.le_of_ble_eq_true rfl) ?_
    obtain ⟨n0, n1, n2, n3, n4, n5, n6⟩ := zout06 h13
    have he : lkV kd x i gr = 3 := by unfold lkV; rw [if_neg n0, if_neg n1, if_neg n2, if_neg n3, if_neg (fun hh => hh.elim n4 (fun h => h.elim n5 n6))]
    rw [← he]
    exact k
theorem stepM1_hd (q : hT) (v : Int32) (i : Nat) (fr : Int32) (gr : Bool) : (stepM1 q v i fr gr).2.2.2.2.2.2.2 = q.2.2.2.2.2.2.2 := by
  unfold stepM1
  split
  · rfl
  · exact faultT_hd _ _ _ _ _
theorem stepM2_hd (q : hT) (kd x fr : Int32) : (stepM2 q kd x fr).2.2.2.2.2.2.2 = q.2.2.2.2.2.2.2 := by
  unfold stepM2
  split <;> rfl
theorem faultT_u (q : hT) (i f fr : Int32) (gr : Bool) : (faultT q i f fr gr).2.1.1 ≤ q.2.1.1 + 1 := by
  unfold faultT
  split
  · exact Nat.le_refl _
  · exact Nat.le_succ _
theorem stepM1_u (q : hT) (v : Int32) (i : Nat) (fr : Int32) (gr : Bool) : (stepM1 q v i fr gr).2.1.1 ≤ q.2.1.1 + 1 := by
  unfold stepM1
  split
  · exact Nat.le_succ _
  · exact faultT_u _ _ _ _ _
theorem goT_u (q : hT) (i : Nat) (fr : Int32) (gr : Bool) : (goT q i fr gr).2.2.1.1 ≤ q.2.1.1 + 1 := by
  unfold goT
  simp only
  repeat' split
  all_goals first | exact Nat.le_succ _ | exact faultT_u _ _ _ _ _ | exact Nat.le_refl _
theorem l_come {g : zG} {ws : va_W} {post : Option Value → va_W → Prop} {B : Nat → Nat} {q : hT} {t : Int32} {R : va_W} (h : mS g B q t R ws) {f a : Int32} {T U : Nat} (hi : hI q T U) (hU : U + 6 < 2000000000) (k0 : ((f = 0 ∨ zaddr f = true) ∧ (a = 65535 ∨ zaddr a = true)) → q.1.2.2.2.2.2.2 = false → ∀ w, mS g B (comeT q f a).2 0 R w → post (some (.int (comeT q f a).1)) w) (k1 : ¬ ((f = 0 ∨ zaddr f = true) ∧ (a = 65535 ∨ zaddr a = true)) → ∀ w, mS g B q 1 R w → post (some (.int 0)) w) (k2 : ((f = 0 ∨ zaddr f = true) ∧ (a = 65535 ∨ zaddr a = true)) → q.1.2.2.2.2.2.2 = true → ∀ w, mS g B q 2 R w → post (some (.int 0)) w) : zC g i_Mo_come [.ref (B 0), .int f, .int a] ws post := by
  refine zC.intro (by decide +kernel) rfl (Nat.le_of_ble_eq_true rfl) fun x0 hq => ?_
  obtain ⟨m, F, hr, hs⟩ := h
  obtain ⟨cc, a1, a2, a3, a4, a5, a6, a7, a8, a9, a10, a11, a12, a13, a14⟩ := id hi
  have loop : ∀ (gr : Bool) (d i : Nat) (q1 : hT) (ws : va_W), i + d = q.2.2.2.2.2.2.2.1 → mS g B (clearT q1) 0 R ws → q1.2.2.2.2.2.2.2 = q.2.2.2.2.2.2.2 → q1.2.1.1 + d < 2147483647 → (∀ w, mS g B (clearT (lookT q1 f gr d i).2) 0 R w → post (some (.int (lookT q1 f gr d i).1)) w) → zW x0 g i_Mo_come 100 [some (.ref (B 0)), some (.int f), some (.int a), some (.int (zb gr)), some (.int (nI q.2.2.2.2.2.2.2.1)), some (.int (nI i)), some (.int 0)] [] ws 0 0 := by
    intro gr d
    induction d with
    | zero =>
      intro i q1 ws hid hS hhd hu kk
      obtain ⟨m, F, hr, hs⟩ := hS
      refine zo_iload (i := i_Mo_come) (pc := 100) d_Mo_come_100 rfl ?_
      refine zo_iload (i := i_Mo_come) (pc := 102) d_Mo_come_102 rfl ?_
      refine zo_icmp_ge (i := i_Mo_come) (pc := 104) (tgt := 199) d_Mo_come_104 (by decide) (fun h104 => ?_) (fun h104 => False.elim (by first | exact absurd h104 ((nI_le (by omega) (by omega))) | exact absurd ((nI_le (by omega) (by omega))) h104))
      refine zo_iload (i := i_Mo_come) (pc := 199) d_Mo_come_199 rfl ?_
      refine zo_ireturn (i := i_Mo_come) (pc := 201) hq d_Mo_come_201 rfl (Nat.le_of_ble_eq_true rfl) (Nat.le_of_ble_eq_true rfl) ?_
      have k2 := kk ws ⟨_, _, hr, hs⟩
      rw [show (lookT q1 f gr 0 i).1 = nI q1.2.2.2.2.2.2.2.1 from rfl, hhd, ← hid] at k2
      exact k2
    | succ d ih =>
      intro i q1 ws hid hS hhd hu kk
      obtain ⟨m, F, hr, hs⟩ := hS
      have hi6 : i < 6 := by omega
      have hx3 : zwithin (q1.2.2.2.2.2.2.2.2.2 i) 0 3 = true := by rw [hhd]; exact a14 i (by omega)
      obtain ⟨f1, f2⟩ := go_look (fr := f) (gr := gr) hx3
      have hgh := goT_hd q1 i f gr
      have hgu := goT_u q1 i f gr
      have e30 : F 30 (nI i).toNatClampNeg = q1.2.2.2.2.2.2.2.2.1 i := by rw [nI_clamp (by omega), hr.2.2.2.2.2.2.2.1]; rfl
      have e31 : F 31 (nI i).toNatClampNeg = q1.2.2.2.2.2.2.2.2.2 i := by rw [nI_clamp (by omega), hr.2.2.2.2.2.2.2.2]; rfl
      rw [lookT] at kk
      generalize hkd : q1.2.2.2.2.2.2.2.2.1 i = kd at f1 f2 e30
      generalize hxx : q1.2.2.2.2.2.2.2.2.2 i = x at f1 f2 e31
      generalize hlv : lkV kd x i gr = v at f1 f2
      have s193 : ∀ ws, mS g B (clearT (goT q1 i f gr).2) 0 R ws → zW x0 g i_Mo_come 193 [some (.ref (B 0)), some (.int f), some (.int a), some (.int (zb gr)), some (.int (nI q.2.2.2.2.2.2.2.1)), some (.int (nI i)), some (.int v)] [] ws 0 0 := by
        intro ws hS
        by_cases hv0 : v = 0
        · rw [if_pos (by rw [f1]; exact decide_eq_true hv0)] at kk
          obtain ⟨m, F, hr, hs⟩ := id hS
          refine zo_iinc (i := i_Mo_come) (pc := 193) (v := nI (i + 1)) d_Mo_come_193 rfl (nI_inc i) (Nat.le_of_ble_eq_true rfl) ?_
          refine zo_goto (i := i_Mo_come) (pc := 196) (tgt := 100) d_Mo_come_196 (by decide) ?_
          rw [hv0]
          exact ih (i + 1) (goT q1 i f gr).2 ws (by omega) hS (by rw [hgh]; exact hhd) (by omega) kk
        · rw [if_neg (by rw [f1, decide_eq_false hv0]; decide)] at kk
          obtain ⟨m, F, hr, hs⟩ := id hS
          refine zo_iinc (i := i_Mo_come) (pc := 193) (v := nI (i + 1)) d_Mo_come_193 rfl (nI_inc i) (Nat.le_of_ble_eq_true rfl) ?_
          refine zo_goto (i := i_Mo_come) (pc := 196) (tgt := 100) d_Mo_come_196 (by decide) ?_
          refine zo_iload (i := i_Mo_come) (pc := 100) d_Mo_come_100 rfl ?_
          refine zo_iload (i := i_Mo_come) (pc := 102) d_Mo_come_102 rfl ?_
          refine zo_icmp_ge (i := i_Mo_come) (pc := 104) (tgt := 199) d_Mo_come_104 (by decide) (fun h104 => ?_) (fun h104 => ?_)
          · refine zo_iload (i := i_Mo_come) (pc := 199) d_Mo_come_199 rfl ?_
            refine zo_ireturn (i := i_Mo_come) (pc := 201) hq d_Mo_come_201 rfl (Nat.le_of_ble_eq_true rfl) (Nat.le_of_ble_eq_true rfl) ?_
            have k2 := kk ws ⟨_, _, hr, hs⟩
            rw [show (nI i + 1, (goT q1 i f gr).2).1 = nI (i + 1) from nI_1 i] at k2
            exact k2
          · refine zo_iload (i := i_Mo_come) (pc := 107) d_Mo_come_107 rfl ?_
            refine zo_if_ne (i := i_Mo_come) (pc := 109) (tgt := 199) d_Mo_come_109 (by decide) (fun h109 => ?_) (fun h109 => False.elim (by first | exact absurd h109 (hv0) | exact absurd (hv0) h109))
            refine zo_iload (i := i_Mo_come) (pc := 199) d_Mo_come_199 rfl ?_
            refine zo_ireturn (i := i_Mo_come) (pc := 201) hq d_Mo_come_201 rfl (Nat.le_of_ble_eq_true rfl) (Nat.le_of_ble_eq_true rfl) ?_
            have k2 := kk ws ⟨_, _, hr, hs⟩
            rw [show (nI i + 1, (goT q1 i f gr).2).1 = nI (i + 1) from nI_1 i] at k2
            exact k2
      have s167 : ∀ ws, mS g B (stepM2 (stepM1 (clearT q1) v i f gr) kd x f) 0 R ws → zW x0 g i_Mo_come 167 [some (.ref (B 0)), some (.int f), some (.int a), some (.int (zb gr)), some (.int (nI q.2.2.2.2.2.2.2.1)), some (.int (nI i)), some (.int v)] [] ws 0 0 := by
        intro ws hS
        obtain ⟨m, F, hr, hs⟩ := hS
        have e30 : F 30 (nI i).toNatClampNeg = kd := by rw [nI_clamp (by omega), hr.2.2.2.2.2.2.2.1, stepM2_hd, stepM1_hd, ← hkd]; rfl
        obtain ⟨b0, b1, b2, b3, b4, b5, b6, b7⟩ := hr.1
        refine zo_aload_n (i := i_Mo_come) (pc := 167) d_Mo_come_167 rfl rfl ?_
        refine zo_dup (i := i_Mo_come) (pc := 168) d_Mo_come_168 rfl ?_
        refine zo_get (i := i_Mo_come) (pc := 169) 10 7 rfl zok_Mo (Nat.le_of_ble_eq_true rfl) (ztb_of k_865 rfl) d_Mo_come_169 (fun _ _ _ h => h) (hs.get (t := 0) rfl) rfl ?_
        refine zo_aload_n (i := i_Mo_come) (pc := 172) d_Mo_come_172 rfl rfl ?_
        refine zo_get (i := i_Mo_come) (pc := 173) 10 30 rfl zok_Mo (Nat.le_of_ble_eq_true rfl) (ztb_of k_888 rfl) d_Mo_come_173 (fun _ _ _ h => h) (hs.get (t := 0) rfl) rfl ?_
        refine zo_iload (i := i_Mo_come) (pc := 176) d_Mo_come_176 rfl ?_
        refine zo_iaload (i := i_Mo_come) (pc := 178) d_Mo_come_178 (hs.get (t := 19) rfl) (vp_in_nI (by omega) (by decide)) ?_
        refine zo_bipush (i := i_Mo_come) (pc := 179) (v := 6) d_Mo_come_179 (by decide) ?_
        refine zo_icmp_ne (i := i_Mo_come) (pc := 181) (tgt := 188) d_Mo_come_181 (by decide) (fun h181 => ?_) (fun h181 => ?_)
        · refine zo_iconst (i := i_Mo_come) (pc := 188) (v := 0) d_Mo_come_188 (by decide) ?_
          refine zo_iadd (i := i_Mo_come) (pc := 189) d_Mo_come_189 ?_
          refine zh_put (i := i_Mo_come) (pc := 190) 10 7 rfl zok_Mo (Nat.le_of_ble_eq_true rfl) (ztb_of k_865 rfl) rfl d_Mo_come_190 (fun _ _ _ h => h) (t_Mo_ok 7 (Nat.le_of_ble_eq_true rfl)) rfl rfl hs 0 rfl (Nat.le_of_ble_eq_true rfl) fun ws hs => ?_
          rw [e30] at h181
          replace hs : zHas ws (moW g B (mup m 7 (m 7 + 0)) F ++ R) := hs
          refine s193 ws ?_
          rw [f2]
          refine ⟨_, _, hr.setS (m' := mup m 7 (m 7 + 0)) ⟨b0, b1, b2, b3, b4, b5, b6, ?_⟩ (fun k hk => mup_ne (by omega)), hs⟩
          show m 7 + _ = _ + (if kd = 6 then 1 else 0)
          rw [b7, if_neg h181]
        · refine zo_iconst (i := i_Mo_come) (pc := 184) (v := 1) d_Mo_come_184 (by decide) ?_
          refine zo_goto (i := i_Mo_come) (pc := 185) (tgt := 189) d_Mo_come_185 (by decide) ?_
          refine zo_iadd (i := i_Mo_come) (pc := 189) d_Mo_come_189 ?_
          refine zh_put (i := i_Mo_come) (pc := 190) 10 7 rfl zok_Mo (Nat.le_of_ble_eq_true rfl) (ztb_of k_865 rfl) rfl d_Mo_come_190 (fun _ _ _ h => h) (t_Mo_ok 7 (Nat.le_of_ble_eq_true rfl)) rfl rfl hs 0 rfl (Nat.le_of_ble_eq_true rfl) fun ws hs => ?_
          rw [e30] at h181
          replace hs : zHas ws (moW g B (mup m 7 (m 7 + 1)) F ++ R) := hs
          refine s193 ws ?_
          rw [f2]
          refine ⟨_, _, hr.setS (m' := mup m 7 (m 7 + 1)) ⟨b0, b1, b2, b3, b4, b5, b6, ?_⟩ (fun k hk => mup_ne (by omega)), hs⟩
          show m 7 + _ = _ + (if kd = 6 then 1 else 0)
          rw [b7, if_pos h181]
      have s139 : ∀ ws, mS g B (stepM1 (clearT q1) v i f gr) 0 R ws → zW x0 g i_Mo_come 139 [some (.ref (B 0)), some (.int f), some (.int a), some (.int (zb gr)), some (.int (nI q.2.2.2.2.2.2.2.1)), some (.int (nI i)), some (.int v)] [] ws 0 0 := by
        intro ws hS
        obtain ⟨m, F, hr, hs⟩ := hS
        have e30 : F 30 (nI i).toNatClampNeg = kd := by rw [nI_clamp (by omega), hr.2.2.2.2.2.2.2.1, stepM1_hd, ← hkd]; rfl
        have e31 : F 31 (nI i).toNatClampNeg = x := by rw [nI_clamp (by omega), hr.2.2.2.2.2.2.2.2, stepM1_hd, ← hxx]; rfl
        have hu1 := stepM1_u (clearT q1) v i f gr
        refine zo_aload_n (i := i_Mo_come) (pc := 139) d_Mo_come_139 rfl rfl ?_
        refine zo_get (i := i_Mo_come) (pc := 140) 10 30 rfl zok_Mo (Nat.le_of_ble_eq_true rfl) (ztb_of k_888 rfl) d_Mo_come_140 (fun _ _ _ h => h) (hs.get (t := 0) rfl) rfl ?_
        refine zo_iload (i := i_Mo_come) (pc := 143) d_Mo_come_143 rfl ?_
        refine zo_iaload (i := i_Mo_come) (pc := 145) d_Mo_come_145 (hs.get (t := 19) rfl) (vp_in_nI (by omega) (by decide)) ?_
        refine zo_iconst (i := i_Mo_come) (pc := 146) (v := 5) d_Mo_come_146 (by decide) ?_
        refine zo_icmp_ne (i := i_Mo_come) (pc := 147) (tgt := 167) d_Mo_come_147 (by decide) (fun h147 => ?_) (fun h147 => ?_)
        · rw [e30] at h147
          refine s167 ws ?_
          rw [stepM2_no h147]
          exact ⟨_, _, hr, hs⟩
        · refine zo_iload_n (i := i_Mo_come) (pc := 150) d_Mo_come_150 rfl ?_
          refine zo_if_eq (i := i_Mo_come) (pc := 151) (tgt := 167) d_Mo_come_151 (by decide) (fun h151 => ?_) (fun h151 => ?_)
          · rw [e30] at h147
            refine s167 ws ?_
            have e2 : stepM2 (stepM1 (clearT q1) v i f gr) kd x f = stepM1 (clearT q1) v i f gr := by unfold stepM2; rw [if_neg (fun hh => hh.2 h151)]
            rw [e2]
            exact ⟨_, _, hr, hs⟩
          · refine zo_aload_n (i := i_Mo_come) (pc := 154) d_Mo_come_154 rfl rfl ?_
            refine zo_iconst (i := i_Mo_come) (pc := 155) (v := 5) d_Mo_come_155 (by decide) ?_
            refine zo_iload_n (i := i_Mo_come) (pc := 156) d_Mo_come_156 rfl ?_
            refine zo_aload_n (i := i_Mo_come) (pc := 157) d_Mo_come_157 rfl rfl ?_
            refine zo_get (i := i_Mo_come) (pc := 158) 10 31 rfl zok_Mo (Nat.le_of_ble_eq_true rfl) (ztb_of k_889 rfl) d_Mo_come_158 (fun _ _ _ h => h) (hs.get (t := 0) rfl) rfl ?_
            refine zo_iload (i := i_Mo_come) (pc := 161) d_Mo_come_161 rfl ?_
            refine zo_iaload (i := i_Mo_come) (pc := 163) d_Mo_come_163 (hs.get (t := 20) rfl) (vp_in_nI (by omega) (by decide)) ?_
            rw [e31]
            refine zc_V3 (i := i_Mo_come) (pc := 164) 10 rfl m_Mo_out (ztb_of k_854 rfl) (ztb_of k_856 rfl) s_Mo_out d_Mo_come_164 (Nat.le_of_ble_eq_true rfl) (Nat.le_of_ble_eq_true rfl) (Nat.le_of_ble_eq_true rfl) (Nat.le_of_ble_eq_true rfl) (hs.get (t := 0) rfl) (l_out ⟨_, _, hr, hs⟩ (by have : (clearT q1).2.1.1 = q1.2.1.1 := rfl; omega) fun ws hS => ?_)
            rw [e30] at h147
            refine s167 ws ?_
            have e2 : stepM2 (stepM1 (clearT q1) v i f gr) kd x f = tU (stepM1 (clearT q1) v i f gr) (ouAdd (stepM1 (clearT q1) v i f gr).2.1 5 f x) := by unfold stepM2; rw [if_pos ⟨h147, h151⟩]
            rw [e2]
            exact hS
      refine zo_iload (i := i_Mo_come) (pc := 100) d_Mo_come_100 rfl ?_
      refine zo_iload (i := i_Mo_come) (pc := 102) d_Mo_come_102 rfl ?_
      refine zo_icmp_ge (i := i_Mo_come) (pc := 104) (tgt := 199) d_Mo_come_104 (by decide) (fun h104 => False.elim (by first | exact absurd h104 ((nI_ge (by omega) (by omega))) | exact absurd ((nI_ge (by omega) (by omega))) h104)) (fun h104 => ?_)
      refine zo_iload (i := i_Mo_come) (pc := 107) d_Mo_come_107 rfl ?_
      refine zo_if_ne (i := i_Mo_come) (pc := 109) (tgt := 199) d_Mo_come_109 (by decide) (fun h109 => False.elim (by first | exact absurd h109 (rfl) | exact absurd (rfl) h109)) (fun h109 => ?_)
      refine zo_aload_n (i := i_Mo_come) (pc := 112) d_Mo_come_112 rfl rfl ?_
      refine zo_iload (i := i_Mo_come) (pc := 113) d_Mo_come_113 rfl ?_
      refine zo_iload_n (i := i_Mo_come) (pc := 115) d_Mo_come_115 rfl ?_
      refine zc_V2 (i := i_Mo_come) (pc := 116) 10 rfl m_Mo_look (ztb_of k_1105 rfl) (ztb_of k_1107 rfl) s_Mo_look d_Mo_come_116 (Nat.le_of_ble_eq_true rfl) (Nat.le_of_ble_eq_true rfl) (Nat.le_of_ble_eq_true rfl) (Nat.le_of_ble_eq_true rfl) (hs.get (t := 0) rfl) (l_look (gr := gr) ⟨_, _, hr, hs⟩ hi6 ?_)
      rw [show (clearT q1).2.2.2.2.2.2.2.2.1 i = kd from hkd, show (clearT q1).2.2.2.2.2.2.2.2.2 i = x from hxx, hlv]
      refine zo_istore (i := i_Mo_come) (pc := 119) d_Mo_come_119 (Nat.le_of_ble_eq_true rfl) ?_
      refine zo_iload (i := i_Mo_come) (pc := 121) d_Mo_come_121 rfl ?_
      refine zo_iconst (i := i_Mo_come) (pc := 123) (v := 1) d_Mo_come_123 (by decide) ?_
      refine zo_icmp_le (i := i_Mo_come) (pc := 124) (tgt := 139) d_Mo_come_124 (by decide) (fun h124 => ?_) (fun h124 => ?_)
      · refine s139 ws ?_
        unfold stepM1
        rw [if_pos h124]
        exact ⟨_, _, hr, hs⟩
      · refine zo_aload_n (i := i_Mo_come) (pc := 127) d_Mo_come_127 rfl rfl ?_
        refine zo_iload_n (i := i_Mo_come) (pc := 128) d_Mo_come_128 rfl ?_
        refine zo_iload (i := i_Mo_come) (pc := 129) d_Mo_come_129 rfl ?_
        refine zo_iload (i := i_Mo_come) (pc := 131) d_Mo_come_131 rfl ?_
        refine zo_iconst (i := i_Mo_come) (pc := 133) (v := 2) d_Mo_come_133 (by decide) ?_
        refine zo_isub (i := i_Mo_come) (pc := 134) d_Mo_come_134 ?_
        refine zo_iload_n (i := i_Mo_come) (pc := 135) d_Mo_come_135 rfl ?_
        refine zc_V4 (i := i_Mo_come) (pc := 136) 10 rfl m_Mo_fault (ztb_of k_1109 rfl) (ztb_of k_1111 rfl) s_Mo_fault d_Mo_come_136 (Nat.le_of_ble_eq_true rfl) (Nat.le_of_ble_eq_true rfl) (Nat.le_of_ble_eq_true rfl) (Nat.le_of_ble_eq_true rfl) (hs.get (t := 0) rfl) (l_fault (gr := gr) ⟨_, _, hr, hs⟩ (by show q1.2.1.1 < _; omega) fun ws hS => ?_)
        refine s139 ws ?_
        unfold stepM1
        rw [if_neg h124]
        exact hS
  by_cases hgr : a = 65535
  · by_cases hf0 : f = 0
    · by_cases hg : (f = 0 ∨ zaddr f = true) ∧ (a = 65535 ∨ zaddr a = true)
      · cases hdn : q.1.2.2.2.2.2.2
        · refine zo_iload_n (i := i_Mo_come) (pc := 0) d_Mo_come_0 rfl ?_
          refine zo_ldc (i := i_Mo_come) (pc := 1) d_Mo_come_1 (ztb_of k_853 rfl) ?_
          refine zo_icmp_ne (i := i_Mo_come) (pc := 3) (tgt := 10) d_Mo_come_3 (by decide) (fun h3 => False.elim (by first | exact absurd h3 (hgr) | exact absurd (hgr) h3)) (fun h3 => ?_)
          refine zo_iconst (i := i_Mo_come) (pc := 6) (v := 1) d_Mo_come_6 (by decide) ?_
          refine zo_goto (i := i_Mo_come) (pc := 7) (tgt := 11) d_Mo_come_7 (by decide) ?_
          refine zo_istore_n (i := i_Mo_come) (pc := 11) d_Mo_come_11 (Nat.le_of_ble_eq_true rfl) ?_
          refine zo_aload_n (i := i_Mo_come) (pc := 12) d_Mo_come_12 rfl rfl ?_
          refine zo_iload_n (i := i_Mo_come) (pc := 13) d_Mo_come_13 rfl ?_
          refine zo_if_eq (i := i_Mo_come) (pc := 14) (tgt := 25) d_Mo_come_14 (by decide) (fun h14 => ?_) (fun h14 => False.elim (by first | exact absurd h14 (hf0) | exact absurd (hf0) h14))
          refine zo_iload_n (i := i_Mo_come) (pc := 25) d_Mo_come_25 rfl ?_
          refine zo_if_ne (i := i_Mo_come) (pc := 26) (tgt := 41) d_Mo_come_26 (by decide) (fun h26 => ?_) (fun h26 => False.elim (by first | exact absurd h26 ((by decide)) | exact absurd ((by decide)) h26))
          refine zo_aload_n (i := i_Mo_come) (pc := 41) d_Mo_come_41 rfl rfl ?_
          refine zo_get (i := i_Mo_come) (pc := 42) 10 3 rfl zok_Mo (Nat.le_of_ble_eq_true rfl) (ztb_of k_861 rfl) d_Mo_come_42 (fun _ _ _ h => h) (hs.get (t := 0) rfl) rfl ?_
          refine zo_if_eq (i := i_Mo_come) (pc := 45) (tgt := 52) d_Mo_come_45 (by decide) (fun h45 => ?_) (fun h45 => False.elim (by first | exact absurd h45 ((by rw [hr.1.2.2.2.1, hdn]; rfl)) | exact absurd ((by rw [hr.1.2.2.2.1, hdn]; rfl)) h45))
          refine zo_iconst (i := i_Mo_come) (pc := 52) (v := 0) d_Mo_come_52 (by decide) ?_
          refine zh_put (i := i_Mo_come) (pc := 53) 10 0 rfl zok_Mo (Nat.le_of_ble_eq_true rfl) (ztb_of k_858 rfl) rfl d_Mo_come_53 (fun _ _ _ h => h) (t_Mo_ok 0 (Nat.le_of_ble_eq_true rfl)) rfl rfl hs 0 rfl (Nat.le_of_ble_eq_true rfl) fun ws hs => ?_
          refine zo_aload_n (i := i_Mo_come) (pc := 56) d_Mo_come_56 rfl rfl ?_
          refine zo_get (i := i_Mo_come) (pc := 57) 10 0 rfl zok_Mo (Nat.le_of_ble_eq_true rfl) (ztb_of k_858 rfl) d_Mo_come_57 (fun _ _ _ h => h) (hs.get (t := 0) rfl) rfl ?_
          refine zo_if_eq (i := i_Mo_come) (pc := 60) (tgt := 65) d_Mo_come_60 (by decide) (fun h60 => ?_) (fun h60 => False.elim (by first | exact absurd h60 (rfl) | exact absurd (rfl) h60))
          obtain ⟨m, F, hr, hs⟩ : mS g B q 0 R ws := ⟨_, _, hr.thrown, hs⟩
          have h29 : m 29 = nI q.2.2.2.2.2.2.2.1 := hr.2.2.2.2.2.1
          refine zo_aload_n (i := i_Mo_come) (pc := 65) d_Mo_come_65 rfl rfl ?_
          refine zo_get (i := i_Mo_come) (pc := 66) 10 29 rfl zok_Mo (Nat.le_of_ble_eq_true rfl) (ztb_of k_887 rfl) d_Mo_come_66 (fun _ _ _ h => h) (hs.get (t := 0) rfl) rfl ?_
          rw [h29]
          refine zo_istore (i := i_Mo_come) (pc := 69) d_Mo_come_69 (Nat.le_of_ble_eq_true rfl) ?_
          refine zo_aload_n (i := i_Mo_come) (pc := 71) d_Mo_come_71 rfl rfl ?_
          refine zo_iconst (i := i_Mo_come) (pc := 72) (v := 0) d_Mo_come_72 (by decide) ?_
          refine zh_put (i := i_Mo_come) (pc := 73) 10 29 rfl zok_Mo (Nat.le_of_ble_eq_true rfl) (ztb_of k_887 rfl) rfl d_Mo_come_73 (fun _ _ _ h => h) (t_Mo_ok 29 (Nat.le_of_ble_eq_true rfl)) rfl rfl hs 0 rfl (Nat.le_of_ble_eq_true rfl) fun ws hs => ?_
          replace hs : zHas ws (moW g B (mup m 29 0) F ++ R) := hs
          obtain ⟨m, F, hr, hs⟩ : mS g B (clearT q) 0 R ws := ⟨_, _, hr.clear, hs⟩
          have hfor : forT q a = true := by unfold forT; rw [decide_eq_true hgr]; rfl
          refine zo_iload_n (i := i_Mo_come) (pc := 76) d_Mo_come_76 rfl ?_
          refine zo_if_ne (i := i_Mo_come) (pc := 77) (tgt := 94) d_Mo_come_77 (by decide) (fun h77 => ?_) (fun h77 => False.elim (by first | exact absurd h77 ((by decide)) | exact absurd ((by decide)) h77))
          refine zo_iconst (i := i_Mo_come) (pc := 94) (v := 0) d_Mo_come_94 (by decide) ?_
          rw [← nI_0]
          refine zo_istore (i := i_Mo_come) (pc := 95) d_Mo_come_95 (Nat.le_of_ble_eq_true rfl) ?_
          refine zo_iconst (i := i_Mo_come) (pc := 97) (v := 0) d_Mo_come_97 (by decide) ?_
          rw [nI_0]
          refine zo_istore (i := i_Mo_come) (pc := 98) d_Mo_come_98 (Nat.le_of_ble_eq_true rfl) ?_
          refine loop true q.2.2.2.2.2.2.2.1 0 q ws (by omega) ⟨_, _, hr, hs⟩ rfl (by omega) (fun w hw => ?_)
          have kk := k0 hg hdn w
          unfold comeT at kk
          rw [if_pos hfor, decide_eq_true hgr] at kk
          exact kk hw
        · refine zo_iload_n (i := i_Mo_come) (pc := 0) d_Mo_come_0 rfl ?_
          refine zo_ldc (i := i_Mo_come) (pc := 1) d_Mo_come_1 (ztb_of k_853 rfl) ?_
          refine zo_icmp_ne (i := i_Mo_come) (pc := 3) (tgt := 10) d_Mo_come_3 (by decide) (fun h3 => False.elim (by first | exact absurd h3 (hgr) | exact absurd (hgr) h3)) (fun h3 => ?_)
          refine zo_iconst (i := i_Mo_come) (pc := 6) (v := 1) d_Mo_come_6 (by decide) ?_
          refine zo_goto (i := i_Mo_come) (pc := 7) (tgt := 11) d_Mo_come_7 (by decide) ?_
          refine zo_istore_n (i := i_Mo_come) (pc := 11) d_Mo_come_11 (Nat.le_of_ble_eq_true rfl) ?_
          refine zo_aload_n (i := i_Mo_come) (pc := 12) d_Mo_come_12 rfl rfl ?_
          refine zo_iload_n (i := i_Mo_come) (pc := 13) d_Mo_come_13 rfl ?_
          refine zo_if_eq (i := i_Mo_come) (pc := 14) (tgt := 25) d_Mo_come_14 (by decide) (fun h14 => ?_) (fun h14 => False.elim (by first | exact absurd h14 (hf0) | exact absurd (hf0) h14))
          refine zo_iload_n (i := i_Mo_come) (pc := 25) d_Mo_come_25 rfl ?_
          refine zo_if_ne (i := i_Mo_come) (pc := 26) (tgt := 41) d_Mo_come_26 (by decide) (fun h26 => ?_) (fun h26 => False.elim (by first | exact absurd h26 ((by decide)) | exact absurd ((by decide)) h26))
          refine zo_aload_n (i := i_Mo_come) (pc := 41) d_Mo_come_41 rfl rfl ?_
          refine zo_get (i := i_Mo_come) (pc := 42) 10 3 rfl zok_Mo (Nat.le_of_ble_eq_true rfl) (ztb_of k_861 rfl) d_Mo_come_42 (fun _ _ _ h => h) (hs.get (t := 0) rfl) rfl ?_
          refine zo_if_eq (i := i_Mo_come) (pc := 45) (tgt := 52) d_Mo_come_45 (by decide) (fun h45 => False.elim (by first | exact absurd h45 ((by rw [hr.1.2.2.2.1, hdn]; decide)) | exact absurd ((by rw [hr.1.2.2.2.1, hdn]; decide)) h45)) (fun h45 => ?_)
          refine zo_iconst (i := i_Mo_come) (pc := 48) (v := 2) d_Mo_come_48 (by decide) ?_
          refine zo_goto (i := i_Mo_come) (pc := 49) (tgt := 53) d_Mo_come_49 (by decide) ?_
          refine zh_put (i := i_Mo_come) (pc := 53) 10 0 rfl zok_Mo (Nat.le_of_ble_eq_true rfl) (ztb_of k_858 rfl) rfl d_Mo_come_53 (fun _ _ _ h => h) (t_Mo_ok 0 (Nat.le_of_ble_eq_true rfl)) rfl rfl hs 0 rfl (Nat.le_of_ble_eq_true rfl) fun ws hs => ?_
          refine zo_aload_n (i := i_Mo_come) (pc := 56) d_Mo_come_56 rfl rfl ?_
          refine zo_get (i := i_Mo_come) (pc := 57) 10 0 rfl zok_Mo (Nat.le_of_ble_eq_true rfl) (ztb_of k_858 rfl) d_Mo_come_57 (fun _ _ _ h => h) (hs.get (t := 0) rfl) rfl ?_
          refine zo_if_eq (i := i_Mo_come) (pc := 60) (tgt := 65) d_Mo_come_60 (by decide) (fun h60 => False.elim (by first | exact absurd h60 ((by decide)) | exact absurd ((by decide)) h60)) (fun h60 => ?_)
          refine zo_iconst (i := i_Mo_come) (pc := 63) (v := 0) d_Mo_come_63 (by decide) ?_
          refine zo_ireturn (i := i_Mo_come) (pc := 64) hq d_Mo_come_64 rfl (Nat.le_of_ble_eq_true rfl) (Nat.le_of_ble_eq_true rfl) ?_
          exact k2 hg hdn ws ⟨_, _, hr.thrown, hs⟩
      · exact absurd ⟨.inl hf0, .inl hgr⟩ hg
    · by_cases hg : (f = 0 ∨ zaddr f = true) ∧ (a = 65535 ∨ zaddr a = true)
      · cases hdn : q.1.2.2.2.2.2.2
        · refine zo_iload_n (i := i_Mo_come) (pc := 0) d_Mo_come_0 rfl ?_
          refine zo_ldc (i := i_Mo_come) (pc := 1) d_Mo_come_1 (ztb_of k_853 rfl) ?_
          refine zo_icmp_ne (i := i_Mo_come) (pc := 3) (tgt := 10) d_Mo_come_3 (by decide) (fun h3 => False.elim (by first | exact absurd h3 (hgr) | exact absurd (hgr) h3)) (fun h3 => ?_)
          refine zo_iconst (i := i_Mo_come) (pc := 6) (v := 1) d_Mo_come_6 (by decide) ?_
          refine zo_goto (i := i_Mo_come) (pc := 7) (tgt := 11) d_Mo_come_7 (by decide) ?_
          refine zo_istore_n (i := i_Mo_come) (pc := 11) d_Mo_come_11 (Nat.le_of_ble_eq_true rfl) ?_
          refine zo_aload_n (i := i_Mo_come) (pc := 12) d_Mo_come_12 rfl rfl ?_
          refine zo_iload_n (i := i_Mo_come) (pc := 13) d_Mo_come_13 rfl ?_
          refine zo_if_eq (i := i_Mo_come) (pc := 14) (tgt := 25) d_Mo_come_14 (by decide) (fun h14 => False.elim (by first | exact absurd h14 (hf0) | exact absurd (hf0) h14)) (fun h14 => ?_)
          refine zo_aload_n (i := i_Mo_come) (pc := 17) d_Mo_come_17 rfl rfl ?_
          refine zo_iload_n (i := i_Mo_come) (pc := 18) d_Mo_come_18 rfl ?_
          refine zc_V1 (i := i_Mo_come) (pc := 19) 10 rfl m_Mo_isAddress (ztb_of k_1056 rfl) (ztb_of k_1058 rfl) s_Mo_isAddress d_Mo_come_19 (Nat.le_of_ble_eq_true rfl) (Nat.le_of_ble_eq_true rfl) (Nat.le_of_ble_eq_true rfl) (Nat.le_of_ble_eq_true rfl) (hs.get (t := 0) rfl) (c_Mo_isAddress ?_)
          refine zo_if_eq (i := i_Mo_come) (pc := 22) (tgt := 37) d_Mo_come_22 (by decide) (fun h22 => False.elim (by first | exact absurd h22 ((by rw [hg.1.resolve_left hf0]; decide)) | exact absurd ((by rw [hg.1.resolve_left hf0]; decide)) h22)) (fun h22 => ?_)
          refine zo_iload_n (i := i_Mo_come) (pc := 25) d_Mo_come_25 rfl ?_
          refine zo_if_ne (i := i_Mo_come) (pc := 26) (tgt := 41) d_Mo_come_26 (by decide) (fun h26 => ?_) (fun h26 => False.elim (by first | exact absurd h26 ((by decide)) | exact absurd ((by decide)) h26))
          refine zo_aload_n (i := i_Mo_come) (pc := 41) d_Mo_come_41 rfl rfl ?_
          refine zo_get (i := i_Mo_come) (pc := 42) 10 3 rfl zok_Mo (Nat.le_of_ble_eq_true rfl) (ztb_of k_861 rfl) d_Mo_come_42 (fun _ _ _ h => h) (hs.get (t := 0) rfl) rfl ?_
          refine zo_if_eq (i := i_Mo_come) (pc := 45) (tgt := 52) d_Mo_come_45 (by decide) (fun h45 => ?_) (fun h45 => False.elim (by first | exact absurd h45 ((by rw [hr.1.2.2.2.1, hdn]; rfl)) | exact absurd ((by rw [hr.1.2.2.2.1, hdn]; rfl)) h45))
          refine zo_iconst (i := i_Mo_come) (pc := 52) (v := 0) d_Mo_come_52 (by decide) ?_
          refine zh_put (i := i_Mo_come) (pc := 53) 10 0 rfl zok_Mo (Nat.le_of_ble_eq_true rfl) (ztb_of k_858 rfl) rfl d_Mo_come_53 (fun _ _ _ h => h) (t_Mo_ok 0 (Nat.le_of_ble_eq_true rfl)) rfl rfl hs 0 rfl (Nat.le_of_ble_eq_true rfl) fun ws hs => ?_
          refine zo_aload_n (i := i_Mo_come) (pc := 56) d_Mo_come_56 rfl rfl ?_
          refine zo_get (i := i_Mo_come) (pc := 57) 10 0 rfl zok_Mo (Nat.le_of_ble_eq_true rfl) (ztb_of k_858 rfl) d_Mo_come_57 (fun _ _ _ h => h) (hs.get (t := 0) rfl) rfl ?_
          refine zo_if_eq (i := i_Mo_come) (pc := 60) (tgt := 65) d_Mo_come_60 (by decide) (fun h60 => ?_) (fun h60 => False.elim (by first | exact absurd h60 (rfl) | exact absurd (rfl) h60))
          obtain ⟨m, F, hr, hs⟩ : mS g B q 0 R ws := ⟨_, _, hr.thrown, hs⟩
          have h29 : m 29 = nI q.2.2.2.2.2.2.2.1 := hr.2.2.2.2.2.1
          refine zo_aload_n (i := i_Mo_come) (pc := 65) d_Mo_come_65 rfl rfl ?_
          refine zo_get (i := i_Mo_come) (pc := 66) 10 29 rfl zok_Mo (Nat.le_of_ble_eq_true rfl) (ztb_of k_887 rfl) d_Mo_come_66 (fun _ _ _ h => h) (hs.get (t := 0) rfl) rfl ?_
          rw [h29]
          refine zo_istore (i := i_Mo_come) (pc := 69) d_Mo_come_69 (Nat.le_of_ble_eq_true rfl) ?_
          refine zo_aload_n (i := i_Mo_come) (pc := 71) d_Mo_come_71 rfl rfl ?_
          refine zo_iconst (i := i_Mo_come) (pc := 72) (v := 0) d_Mo_come_72 (by decide) ?_
          refine zh_put (i := i_Mo_come) (pc := 73) 10 29 rfl zok_Mo (Nat.le_of_ble_eq_true rfl) (ztb_of k_887 rfl) rfl d_Mo_come_73 (fun _ _ _ h => h) (t_Mo_ok 29 (Nat.le_of_ble_eq_true rfl)) rfl rfl hs 0 rfl (Nat.le_of_ble_eq_true rfl) fun ws hs => ?_
          replace hs : zHas ws (moW g B (mup m 29 0) F ++ R) := hs
          obtain ⟨m, F, hr, hs⟩ : mS g B (clearT q) 0 R ws := ⟨_, _, hr.clear, hs⟩
          have hfor : forT q a = true := by unfold forT; rw [decide_eq_true hgr]; rfl
          refine zo_iload_n (i := i_Mo_come) (pc := 76) d_Mo_come_76 rfl ?_
          refine zo_if_ne (i := i_Mo_come) (pc := 77) (tgt := 94) d_Mo_come_77 (by decide) (fun h77 => ?_) (fun h77 => False.elim (by first | exact absurd h77 ((by decide)) | exact absurd ((by decide)) h77))
          refine zo_iconst (i := i_Mo_come) (pc := 94) (v := 0) d_Mo_come_94 (by decide) ?_
          rw [← nI_0]
          refine zo_istore (i := i_Mo_come) (pc := 95) d_Mo_come_95 (Nat.le_of_ble_eq_true rfl) ?_
          refine zo_iconst (i := i_Mo_come) (pc := 97) (v := 0) d_Mo_come_97 (by decide) ?_
          rw [nI_0]
          refine zo_istore (i := i_Mo_come) (pc := 98) d_Mo_come_98 (Nat.le_of_ble_eq_true rfl) ?_
          refine loop true q.2.2.2.2.2.2.2.1 0 q ws (by omega) ⟨_, _, hr, hs⟩ rfl (by omega) (fun w hw => ?_)
          have kk := k0 hg hdn w
          unfold comeT at kk
          rw [if_pos hfor, decide_eq_true hgr] at kk
          exact kk hw
        · refine zo_iload_n (i := i_Mo_come) (pc := 0) d_Mo_come_0 rfl ?_
          refine zo_ldc (i := i_Mo_come) (pc := 1) d_Mo_come_1 (ztb_of k_853 rfl) ?_
          refine zo_icmp_ne (i := i_Mo_come) (pc := 3) (tgt := 10) d_Mo_come_3 (by decide) (fun h3 => False.elim (by first | exact absurd h3 (hgr) | exact absurd (hgr) h3)) (fun h3 => ?_)
          refine zo_iconst (i := i_Mo_come) (pc := 6) (v := 1) d_Mo_come_6 (by decide) ?_
          refine zo_goto (i := i_Mo_come) (pc := 7) (tgt := 11) d_Mo_come_7 (by decide) ?_
          refine zo_istore_n (i := i_Mo_come) (pc := 11) d_Mo_come_11 (Nat.le_of_ble_eq_true rfl) ?_
          refine zo_aload_n (i := i_Mo_come) (pc := 12) d_Mo_come_12 rfl rfl ?_
          refine zo_iload_n (i := i_Mo_come) (pc := 13) d_Mo_come_13 rfl ?_
          refine zo_if_eq (i := i_Mo_come) (pc := 14) (tgt := 25) d_Mo_come_14 (by decide) (fun h14 => False.elim (by first | exact absurd h14 (hf0) | exact absurd (hf0) h14)) (fun h14 => ?_)
          refine zo_aload_n (i := i_Mo_come) (pc := 17) d_Mo_come_17 rfl rfl ?_
          refine zo_iload_n (i := i_Mo_come) (pc := 18) d_Mo_come_18 rfl ?_
          refine zc_V1 (i := i_Mo_come) (pc := 19) 10 rfl m_Mo_isAddress (ztb_of k_1056 rfl) (ztb_of k_1058 rfl) s_Mo_isAddress d_Mo_come_19 (Nat.le_of_ble_eq_true rfl) (Nat.le_of_ble_eq_true rfl) (Nat.le_of_ble_eq_true rfl) (Nat.le_of_ble_eq_true rfl) (hs.get (t := 0) rfl) (c_Mo_isAddress ?_)
          refine zo_if_eq (i := i_Mo_come) (pc := 22) (tgt := 37) d_Mo_come_22 (by decide) (fun h22 => False.elim (by first | exact absurd h22 ((by rw [hg.1.resolve_left hf0]; decide)) | exact absurd ((by rw [hg.1.resolve_left hf0]; decide)) h22)) (fun h22 => ?_)
          refine zo_iload_n (i := i_Mo_come) (pc := 25) d_Mo_come_25 rfl ?_
          refine zo_if_ne (i := i_Mo_come) (pc := 26) (tgt := 41) d_Mo_come_26 (by decide) (fun h26 => ?_) (fun h26 => False.elim (by first | exact absurd h26 ((by decide)) | exact absurd ((by decide)) h26))
          refine zo_aload_n (i := i_Mo_come) (pc := 41) d_Mo_come_41 rfl rfl ?_
          refine zo_get (i := i_Mo_come) (pc := 42) 10 3 rfl zok_Mo (Nat.le_of_ble_eq_true rfl) (ztb_of k_861 rfl) d_Mo_come_42 (fun _ _ _ h => h) (hs.get (t := 0) rfl) rfl ?_
          refine zo_if_eq (i := i_Mo_come) (pc := 45) (tgt := 52) d_Mo_come_45 (by decide) (fun h45 => False.elim (by first | exact absurd h45 ((by rw [hr.1.2.2.2.1, hdn]; decide)) | exact absurd ((by rw [hr.1.2.2.2.1, hdn]; decide)) h45)) (fun h45 => ?_)
          refine zo_iconst (i := i_Mo_come) (pc := 48) (v := 2) d_Mo_come_48 (by decide) ?_
          refine zo_goto (i := i_Mo_come) (pc := 49) (tgt := 53) d_Mo_come_49 (by decide) ?_
          refine zh_put (i := i_Mo_come) (pc := 53) 10 0 rfl zok_Mo (Nat.le_of_ble_eq_true rfl) (ztb_of k_858 rfl) rfl d_Mo_come_53 (fun _ _ _ h => h) (t_Mo_ok 0 (Nat.le_of_ble_eq_true rfl)) rfl rfl hs 0 rfl (Nat.le_of_ble_eq_true rfl) fun ws hs => ?_
          refine zo_aload_n (i := i_Mo_come) (pc := 56) d_Mo_come_56 rfl rfl ?_
          refine zo_get (i := i_Mo_come) (pc := 57) 10 0 rfl zok_Mo (Nat.le_of_ble_eq_true rfl) (ztb_of k_858 rfl) d_Mo_come_57 (fun _ _ _ h => h) (hs.get (t := 0) rfl) rfl ?_
          refine zo_if_eq (i := i_Mo_come) (pc := 60) (tgt := 65) d_Mo_come_60 (by decide) (fun h60 => False.elim (by first | exact absurd h60 ((by decide)) | exact absurd ((by decide)) h60)) (fun h60 => ?_)
          refine zo_iconst (i := i_Mo_come) (pc := 63) (v := 0) d_Mo_come_63 (by decide) ?_
          refine zo_ireturn (i := i_Mo_come) (pc := 64) hq d_Mo_come_64 rfl (Nat.le_of_ble_eq_true rfl) (Nat.le_of_ble_eq_true rfl) ?_
          exact k2 hg hdn ws ⟨_, _, hr.thrown, hs⟩
      · refine zo_iload_n (i := i_Mo_come) (pc := 0) d_Mo_come_0 rfl ?_
        refine zo_ldc (i := i_Mo_come) (pc := 1) d_Mo_come_1 (ztb_of k_853 rfl) ?_
        refine zo_icmp_ne (i := i_Mo_come) (pc := 3) (tgt := 10) d_Mo_come_3 (by decide) (fun h3 => False.elim (by first | exact absurd h3 (hgr) | exact absurd (hgr) h3)) (fun h3 => ?_)
        refine zo_iconst (i := i_Mo_come) (pc := 6) (v := 1) d_Mo_come_6 (by decide) ?_
        refine zo_goto (i := i_Mo_come) (pc := 7) (tgt := 11) d_Mo_come_7 (by decide) ?_
        refine zo_istore_n (i := i_Mo_come) (pc := 11) d_Mo_come_11 (Nat.le_of_ble_eq_true rfl) ?_
        refine zo_aload_n (i := i_Mo_come) (pc := 12) d_Mo_come_12 rfl rfl ?_
        refine zo_iload_n (i := i_Mo_come) (pc := 13) d_Mo_come_13 rfl ?_
        refine zo_if_eq (i := i_Mo_come) (pc := 14) (tgt := 25) d_Mo_come_14 (by decide) (fun h14 => False.elim (by first | exact absurd h14 (hf0) | exact absurd (hf0) h14)) (fun h14 => ?_)
        refine zo_aload_n (i := i_Mo_come) (pc := 17) d_Mo_come_17 rfl rfl ?_
        refine zo_iload_n (i := i_Mo_come) (pc := 18) d_Mo_come_18 rfl ?_
        refine zc_V1 (i := i_Mo_come) (pc := 19) 10 rfl m_Mo_isAddress (ztb_of k_1056 rfl) (ztb_of k_1058 rfl) s_Mo_isAddress d_Mo_come_19 (Nat.le_of_ble_eq_true rfl) (Nat.le_of_ble_eq_true rfl) (Nat.le_of_ble_eq_true rfl) (Nat.le_of_ble_eq_true rfl) (hs.get (t := 0) rfl) (c_Mo_isAddress ?_)
        refine zo_if_eq (i := i_Mo_come) (pc := 22) (tgt := 37) d_Mo_come_22 (by decide) (fun h22 => ?_) (fun h22 => False.elim (by first | exact absurd h22 ((zb_no (fun hz => hg ⟨.inr hz, .inl hgr⟩))) | exact absurd ((zb_no (fun hz => hg ⟨.inr hz, .inl hgr⟩))) h22))
        refine zo_iconst (i := i_Mo_come) (pc := 37) (v := 1) d_Mo_come_37 (by decide) ?_
        refine zo_goto (i := i_Mo_come) (pc := 38) (tgt := 53) d_Mo_come_38 (by decide) ?_
        refine zh_put (i := i_Mo_come) (pc := 53) 10 0 rfl zok_Mo (Nat.le_of_ble_eq_true rfl) (ztb_of k_858 rfl) rfl d_Mo_come_53 (fun _ _ _ h => h) (t_Mo_ok 0 (Nat.le_of_ble_eq_true rfl)) rfl rfl hs 0 rfl (Nat.le_of_ble_eq_true rfl) fun ws hs => ?_
        refine zo_aload_n (i := i_Mo_come) (pc := 56) d_Mo_come_56 rfl rfl ?_
        refine zo_get (i := i_Mo_come) (pc := 57) 10 0 rfl zok_Mo (Nat.le_of_ble_eq_true rfl) (ztb_of k_858 rfl) d_Mo_come_57 (fun _ _ _ h => h) (hs.get (t := 0) rfl) rfl ?_
        refine zo_if_eq (i := i_Mo_come) (pc := 60) (tgt := 65) d_Mo_come_60 (by decide) (fun h60 => False.elim (by first | exact absurd h60 ((by decide)) | exact absurd ((by decide)) h60)) (fun h60 => ?_)
        refine zo_iconst (i := i_Mo_come) (pc := 63) (v := 0) d_Mo_come_63 (by decide) ?_
        refine zo_ireturn (i := i_Mo_come) (pc := 64) hq d_Mo_come_64 rfl (Nat.le_of_ble_eq_true rfl) (Nat.le_of_ble_eq_true rfl) ?_
        exact k1 hg ws ⟨_, _, hr.thrown, hs⟩
  · by_cases hf0 : f = 0
    · by_cases hg : (f = 0 ∨ zaddr f = true) ∧ (a = 65535 ∨ zaddr a = true)
      · cases hdn : q.1.2.2.2.2.2.2
        · refine zo_iload_n (i := i_Mo_come) (pc := 0) d_Mo_come_0 rfl ?_
          refine zo_ldc (i := i_Mo_come) (pc := 1) d_Mo_come_1 (ztb_of k_853 rfl) ?_
          refine zo_icmp_ne (i := i_Mo_come) (pc := 3) (tgt := 10) d_Mo_come_3 (by decide) (fun h3 => ?_) (fun h3 => False.elim (by first | exact absurd h3 (hgr) | exact absurd (hgr) h3))
          refine zo_iconst (i := i_Mo_come) (pc := 10) (v := 0) d_Mo_come_10 (by decide) ?_
          refine zo_istore_n (i := i_Mo_come) (pc := 11) d_Mo_come_11 (Nat.le_of_ble_eq_true rfl) ?_
          refine zo_aload_n (i := i_Mo_come) (pc := 12) d_Mo_come_12 rfl rfl ?_
          refine zo_iload_n (i := i_Mo_come) (pc := 13) d_Mo_come_13 rfl ?_
          refine zo_if_eq (i := i_Mo_come) (pc := 14) (tgt := 25) d_Mo_come_14 (by decide) (fun h14 => ?_) (fun h14 => False.elim (by first | exact absurd h14 (hf0) | exact absurd (hf0) h14))
          refine zo_iload_n (i := i_Mo_come) (pc := 25) d_Mo_come_25 rfl ?_
          refine zo_if_ne (i := i_Mo_come) (pc := 26) (tgt := 41) d_Mo_come_26 (by decide) (fun h26 => False.elim (by first | exact absurd h26 (rfl) | exact absurd (rfl) h26)) (fun h26 => ?_)
          refine zo_aload_n (i := i_Mo_come) (pc := 29) d_Mo_come_29 rfl rfl ?_
          refine zo_iload_n (i := i_Mo_come) (pc := 30) d_Mo_come_30 rfl ?_
          refine zc_V1 (i := i_Mo_come) (pc := 31) 10 rfl m_Mo_isAddress (ztb_of k_1056 rfl) (ztb_of k_1058 rfl) s_Mo_isAddress d_Mo_come_31 (Nat.le_of_ble_eq_true rfl) (Nat.le_of_ble_eq_true rfl) (Nat.le_of_ble_eq_true rfl) (Nat.le_of_ble_eq_true rfl) (hs.get (t := 0) rfl) (c_Mo_isAddress ?_)
          refine zo_if_ne (i := i_Mo_come) (pc := 34) (tgt := 41) d_Mo_come_34 (by decide) (fun h34 => ?_) (fun h34 => False.elim (by first | exact absurd h34 ((by rw [hg.2.resolve_left hgr]; decide)) | exact absurd ((by rw [hg.2.resolve_left hgr]; decide)) h34))
          refine zo_aload_n (i := i_Mo_come) (pc := 41) d_Mo_come_41 rfl rfl ?_
          refine zo_get (i := i_Mo_come) (pc := 42) 10 3 rfl zok_Mo (Nat.le_of_ble_eq_true rfl) (ztb_of k_861 rfl) d_Mo_come_42 (fun _ _ _ h => h) (hs.get (t := 0) rfl) rfl ?_
          refine zo_if_eq (i := i_Mo_come) (pc := 45) (tgt := 52) d_Mo_come_45 (by decide) (fun h45 => ?_) (fun h45 => False.elim (by first | exact absurd h45 ((by rw [hr.1.2.2.2.1, hdn]; rfl)) | exact absurd ((by rw [hr.1.2.2.2.1, hdn]; rfl)) h45))
          refine zo_iconst (i := i_Mo_come) (pc := 52) (v := 0) d_Mo_come_52 (by decide) ?_
          refine zh_put (i := i_Mo_come) (pc := 53) 10 0 rfl zok_Mo (Nat.le_of_ble_eq_true rfl) (ztb_of k_858 rfl) rfl d_Mo_come_53 (fun _ _ _ h => h) (t_Mo_ok 0 (Nat.le_of_ble_eq_true rfl)) rfl rfl hs 0 rfl (Nat.le_of_ble_eq_true rfl) fun ws hs => ?_
          refine zo_aload_n (i := i_Mo_come) (pc := 56) d_Mo_come_56 rfl rfl ?_
          refine zo_get (i := i_Mo_come) (pc := 57) 10 0 rfl zok_Mo (Nat.le_of_ble_eq_true rfl) (ztb_of k_858 rfl) d_Mo_come_57 (fun _ _ _ h => h) (hs.get (t := 0) rfl) rfl ?_
          refine zo_if_eq (i := i_Mo_come) (pc := 60) (tgt := 65) d_Mo_come_60 (by decide) (fun h60 => ?_) (fun h60 => False.elim (by first | exact absurd h60 (rfl) | exact absurd (rfl) h60))
          obtain ⟨m, F, hr, hs⟩ : mS g B q 0 R ws := ⟨_, _, hr.thrown, hs⟩
          have h29 : m 29 = nI q.2.2.2.2.2.2.2.1 := hr.2.2.2.2.2.1
          refine zo_aload_n (i := i_Mo_come) (pc := 65) d_Mo_come_65 rfl rfl ?_
          refine zo_get (i := i_Mo_come) (pc := 66) 10 29 rfl zok_Mo (Nat.le_of_ble_eq_true rfl) (ztb_of k_887 rfl) d_Mo_come_66 (fun _ _ _ h => h) (hs.get (t := 0) rfl) rfl ?_
          rw [h29]
          refine zo_istore (i := i_Mo_come) (pc := 69) d_Mo_come_69 (Nat.le_of_ble_eq_true rfl) ?_
          refine zo_aload_n (i := i_Mo_come) (pc := 71) d_Mo_come_71 rfl rfl ?_
          refine zo_iconst (i := i_Mo_come) (pc := 72) (v := 0) d_Mo_come_72 (by decide) ?_
          refine zh_put (i := i_Mo_come) (pc := 73) 10 29 rfl zok_Mo (Nat.le_of_ble_eq_true rfl) (ztb_of k_887 rfl) rfl d_Mo_come_73 (fun _ _ _ h => h) (t_Mo_ok 29 (Nat.le_of_ble_eq_true rfl)) rfl rfl hs 0 rfl (Nat.le_of_ble_eq_true rfl) fun ws hs => ?_
          replace hs : zHas ws (moW g B (mup m 29 0) F ++ R) := hs
          obtain ⟨m, F, hr, hs⟩ : mS g B (clearT q) 0 R ws := ⟨_, _, hr.clear, hs⟩
          
          refine zo_iload_n (i := i_Mo_come) (pc := 76) d_Mo_come_76 rfl ?_
          refine zo_if_ne (i := i_Mo_come) (pc := 77) (tgt := 94) d_Mo_come_77 (by decide) (fun h77 => False.elim (by first | exact absurd h77 (rfl) | exact absurd (rfl) h77)) (fun h77 => ?_)
          refine zo_aload_n (i := i_Mo_come) (pc := 80) d_Mo_come_80 rfl rfl ?_
          refine zo_aload_n (i := i_Mo_come) (pc := 81) d_Mo_come_81 rfl rfl ?_
          refine zo_iload_n (i := i_Mo_come) (pc := 82) d_Mo_come_82 rfl ?_
          refine zc_V1 (i := i_Mo_come) (pc := 83) 10 rfl m_Mo_ownAt (ztb_of k_1044 rfl) (ztb_of k_1046 rfl) s_Mo_ownAt d_Mo_come_83 (Nat.le_of_ble_eq_true rfl) (Nat.le_of_ble_eq_true rfl) (Nat.le_of_ble_eq_true rfl) (Nat.le_of_ble_eq_true rfl) (hs.get (t := 0) rfl) (l_ownAt ⟨_, _, hr, hs⟩ (fun j x hx hxa hf hset => ?_) (fun hf => ?_))
          · refine zc_V1 (i := i_Mo_come) (pc := 86) 10 rfl m_Mo_usable (ztb_of k_1069 rfl) (ztb_of k_1071 rfl) s_Mo_usable d_Mo_come_86 (Nat.le_of_ble_eq_true rfl) (Nat.le_of_ble_eq_true rfl) (Nat.le_of_ble_eq_true rfl) (Nat.le_of_ble_eq_true rfl) (hs.get (t := 0) rfl) (l_usable ⟨_, _, hr, hs⟩ hx ?_)
            refine zo_if_ne (i := i_Mo_come) (pc := 89) (tgt := 94) d_Mo_come_89 (by decide) (fun h89 => ?_) (fun h89 => ?_)
            · have hfor : forT q a = true := by unfold forT; rw [show q.2.2.1.find? (fun e => decide (e.1 = a)) = some x from hf]; simp only; rw [zb_ne h89]; exact Bool.or_true _
              refine zo_iconst (i := i_Mo_come) (pc := 94) (v := 0) d_Mo_come_94 (by decide) ?_
              rw [← nI_0]
              refine zo_istore (i := i_Mo_come) (pc := 95) d_Mo_come_95 (Nat.le_of_ble_eq_true rfl) ?_
              refine zo_iconst (i := i_Mo_come) (pc := 97) (v := 0) d_Mo_come_97 (by decide) ?_
              rw [nI_0]
              refine zo_istore (i := i_Mo_come) (pc := 98) d_Mo_come_98 (Nat.le_of_ble_eq_true rfl) ?_
              refine loop false q.2.2.2.2.2.2.2.1 0 q ws (by omega) ⟨_, _, hr, hs⟩ rfl (by omega) (fun w hw => ?_)
              have kk := k0 hg hdn w
              unfold comeT at kk
              rw [if_pos hfor, decide_eq_false hgr] at kk
              exact kk hw
            · have hfor : forT q a = false := by unfold forT; rw [decide_eq_false hgr, show q.2.2.1.find? (fun e => decide (e.1 = a)) = some x from hf]; exact zb_eq h89
              refine zo_iconst (i := i_Mo_come) (pc := 92) (v := 0) d_Mo_come_92 (by decide) ?_
              refine zo_ireturn (i := i_Mo_come) (pc := 93) hq d_Mo_come_93 rfl (Nat.le_of_ble_eq_true rfl) (Nat.le_of_ble_eq_true rfl) ?_
              have kk := k0 hg hdn ws
              unfold comeT at kk
              rw [if_neg (by rw [hfor]; decide)] at kk
              exact kk ⟨_, _, hr, hs⟩
          · refine zc_V1 (i := i_Mo_come) (pc := 86) 10 rfl m_Mo_usable (ztb_of k_1069 rfl) (ztb_of k_1071 rfl) s_Mo_usable d_Mo_come_86 (Nat.le_of_ble_eq_true rfl) (Nat.le_of_ble_eq_true rfl) (Nat.le_of_ble_eq_true rfl) (Nat.le_of_ble_eq_true rfl) (hs.get (t := 0) rfl) (c_Mo_usableN (by decide) ?_)
            refine zo_if_ne (i := i_Mo_come) (pc := 89) (tgt := 94) d_Mo_come_89 (by decide) (fun h89 => False.elim (by first | exact absurd h89 (rfl) | exact absurd (rfl) h89)) (fun h89 => ?_)
            refine zo_iconst (i := i_Mo_come) (pc := 92) (v := 0) d_Mo_come_92 (by decide) ?_
            refine zo_ireturn (i := i_Mo_come) (pc := 93) hq d_Mo_come_93 rfl (Nat.le_of_ble_eq_true rfl) (Nat.le_of_ble_eq_true rfl) ?_
            have hfor : forT q a = false := by unfold forT; rw [decide_eq_false hgr, show q.2.2.1.find? (fun e => decide (e.1 = a)) = none from hf]; rfl
            have kk := k0 hg hdn ws
            unfold comeT at kk
            rw [if_neg (by rw [hfor]; decide)] at kk
            exact kk ⟨_, _, hr, hs⟩
        · refine zo_iload_n (i := i_Mo_come) (pc := 0) d_Mo_come_0 rfl ?_
          refine zo_ldc (i := i_Mo_come) (pc := 1) d_Mo_come_1 (ztb_of k_853 rfl) ?_
          refine zo_icmp_ne (i := i_Mo_come) (pc := 3) (tgt := 10) d_Mo_come_3 (by decide) (fun h3 => ?_) (fun h3 => False.elim (by first | exact absurd h3 (hgr) | exact absurd (hgr) h3))
          refine zo_iconst (i := i_Mo_come) (pc := 10) (v := 0) d_Mo_come_10 (by decide) ?_
          refine zo_istore_n (i := i_Mo_come) (pc := 11) d_Mo_come_11 (Nat.le_of_ble_eq_true rfl) ?_
          refine zo_aload_n (i := i_Mo_come) (pc := 12) d_Mo_come_12 rfl rfl ?_
          refine zo_iload_n (i := i_Mo_come) (pc := 13) d_Mo_come_13 rfl ?_
          refine zo_if_eq (i := i_Mo_come) (pc := 14) (tgt := 25) d_Mo_come_14 (by decide) (fun h14 => ?_) (fun h14 => False.elim (by first | exact absurd h14 (hf0) | exact absurd (hf0) h14))
          refine zo_iload_n (i := i_Mo_come) (pc := 25) d_Mo_come_25 rfl ?_
          refine zo_if_ne (i := i_Mo_come) (pc := 26) (tgt := 41) d_Mo_come_26 (by decide) (fun h26 => False.elim (by first | exact absurd h26 (rfl) | exact absurd (rfl) h26)) (fun h26 => ?_)
          refine zo_aload_n (i := i_Mo_come) (pc := 29) d_Mo_come_29 rfl rfl ?_
          refine zo_iload_n (i := i_Mo_come) (pc := 30) d_Mo_come_30 rfl ?_
          refine zc_V1 (i := i_Mo_come) (pc := 31) 10 rfl m_Mo_isAddress (ztb_of k_1056 rfl) (ztb_of k_1058 rfl) s_Mo_isAddress d_Mo_come_31 (Nat.le_of_ble_eq_true rfl) (Nat.le_of_ble_eq_true rfl) (Nat.le_of_ble_eq_true rfl) (Nat.le_of_ble_eq_true rfl) (hs.get (t := 0) rfl) (c_Mo_isAddress ?_)
          refine zo_if_ne (i := i_Mo_come) (pc := 34) (tgt := 41) d_Mo_come_34 (by decide) (fun h34 => ?_) (fun h34 => False.elim (by first | exact absurd h34 ((by rw [hg.2.resolve_left hgr]; decide)) | exact absurd ((by rw [hg.2.resolve_left hgr]; decide)) h34))
          refine zo_aload_n (i := i_Mo_come) (pc := 41) d_Mo_come_41 rfl rfl ?_
          refine zo_get (i := i_Mo_come) (pc := 42) 10 3 rfl zok_Mo (Nat.le_of_ble_eq_true rfl) (ztb_of k_861 rfl) d_Mo_come_42 (fun _ _ _ h => h) (hs.get (t := 0) rfl) rfl ?_
          refine zo_if_eq (i := i_Mo_come) (pc := 45) (tgt := 52) d_Mo_come_45 (by decide) (fun h45 => False.elim (by first | exact absurd h45 ((by rw [hr.1.2.2.2.1, hdn]; decide)) | exact absurd ((by rw [hr.1.2.2.2.1, hdn]; decide)) h45)) (fun h45 => ?_)
          refine zo_iconst (i := i_Mo_come) (pc := 48) (v := 2) d_Mo_come_48 (by decide) ?_
          refine zo_goto (i := i_Mo_come) (pc := 49) (tgt := 53) d_Mo_come_49 (by decide) ?_
          refine zh_put (i := i_Mo_come) (pc := 53) 10 0 rfl zok_Mo (Nat.le_of_ble_eq_true rfl) (ztb_of k_858 rfl) rfl d_Mo_come_53 (fun _ _ _ h => h) (t_Mo_ok 0 (Nat.le_of_ble_eq_true rfl)) rfl rfl hs 0 rfl (Nat.le_of_ble_eq_true rfl) fun ws hs => ?_
          refine zo_aload_n (i := i_Mo_come) (pc := 56) d_Mo_come_56 rfl rfl ?_
          refine zo_get (i := i_Mo_come) (pc := 57) 10 0 rfl zok_Mo (Nat.le_of_ble_eq_true rfl) (ztb_of k_858 rfl) d_Mo_come_57 (fun _ _ _ h => h) (hs.get (t := 0) rfl) rfl ?_
          refine zo_if_eq (i := i_Mo_come) (pc := 60) (tgt := 65) d_Mo_come_60 (by decide) (fun h60 => False.elim (by first | exact absurd h60 ((by decide)) | exact absurd ((by decide)) h60)) (fun h60 => ?_)
          refine zo_iconst (i := i_Mo_come) (pc := 63) (v := 0) d_Mo_come_63 (by decide) ?_
          refine zo_ireturn (i := i_Mo_come) (pc := 64) hq d_Mo_come_64 rfl (Nat.le_of_ble_eq_true rfl) (Nat.le_of_ble_eq_true rfl) ?_
          exact k2 hg hdn ws ⟨_, _, hr.thrown, hs⟩
      · refine zo_iload_n (i := i_Mo_come) (pc := 0) d_Mo_come_0 rfl ?_
        refine zo_ldc (i := i_Mo_come) (pc := 1) d_Mo_come_1 (ztb_of k_853 rfl) ?_
        refine zo_icmp_ne (i := i_Mo_come) (pc := 3) (tgt := 10) d_Mo_come_3 (by decide) (fun h3 => ?_) (fun h3 => False.elim (by first | exact absurd h3 (hgr) | exact absurd (hgr) h3))
        refine zo_iconst (i := i_Mo_come) (pc := 10) (v := 0) d_Mo_come_10 (by decide) ?_
        refine zo_istore_n (i := i_Mo_come) (pc := 11) d_Mo_come_11 (Nat.le_of_ble_eq_true rfl) ?_
        refine zo_aload_n (i := i_Mo_come) (pc := 12) d_Mo_come_12 rfl rfl ?_
        refine zo_iload_n (i := i_Mo_come) (pc := 13) d_Mo_come_13 rfl ?_
        refine zo_if_eq (i := i_Mo_come) (pc := 14) (tgt := 25) d_Mo_come_14 (by decide) (fun h14 => ?_) (fun h14 => False.elim (by first | exact absurd h14 (hf0) | exact absurd (hf0) h14))
        refine zo_iload_n (i := i_Mo_come) (pc := 25) d_Mo_come_25 rfl ?_
        refine zo_if_ne (i := i_Mo_come) (pc := 26) (tgt := 41) d_Mo_come_26 (by decide) (fun h26 => False.elim (by first | exact absurd h26 (rfl) | exact absurd (rfl) h26)) (fun h26 => ?_)
        refine zo_aload_n (i := i_Mo_come) (pc := 29) d_Mo_come_29 rfl rfl ?_
        refine zo_iload_n (i := i_Mo_come) (pc := 30) d_Mo_come_30 rfl ?_
        refine zc_V1 (i := i_Mo_come) (pc := 31) 10 rfl m_Mo_isAddress (ztb_of k_1056 rfl) (ztb_of k_1058 rfl) s_Mo_isAddress d_Mo_come_31 (Nat.le_of_ble_eq_true rfl) (Nat.le_of_ble_eq_true rfl) (Nat.le_of_ble_eq_true rfl) (Nat.le_of_ble_eq_true rfl) (hs.get (t := 0) rfl) (c_Mo_isAddress ?_)
        refine zo_if_ne (i := i_Mo_come) (pc := 34) (tgt := 41) d_Mo_come_34 (by decide) (fun h34 => False.elim (by first | exact absurd h34 ((zb_no (fun hz => hg ⟨.inl hf0, .inr hz⟩))) | exact absurd ((zb_no (fun hz => hg ⟨.inl hf0, .inr hz⟩))) h34)) (fun h34 => ?_)
        refine zo_iconst (i := i_Mo_come) (pc := 37) (v := 1) d_Mo_come_37 (by decide) ?_
        refine zo_goto (i := i_Mo_come) (pc := 38) (tgt := 53) d_Mo_come_38 (by decide) ?_
        refine zh_put (i := i_Mo_come) (pc := 53) 10 0 rfl zok_Mo (Nat.le_of_ble_eq_true rfl) (ztb_of k_858 rfl) rfl d_Mo_come_53 (fun _ _ _ h => h) (t_Mo_ok 0 (Nat.le_of_ble_eq_true rfl)) rfl rfl hs 0 rfl (Nat.le_of_ble_eq_true rfl) fun ws hs => ?_
        refine zo_aload_n (i := i_Mo_come) (pc := 56) d_Mo_come_56 rfl rfl ?_
        refine zo_get (i := i_Mo_come) (pc := 57) 10 0 rfl zok_Mo (Nat.le_of_ble_eq_true rfl) (ztb_of k_858 rfl) d_Mo_come_57 (fun _ _ _ h => h) (hs.get (t := 0) rfl) rfl ?_
        refine zo_if_eq (i := i_Mo_come) (pc := 60) (tgt := 65) d_Mo_come_60 (by decide) (fun h60 => False.elim (by first | exact absurd h60 ((by decide)) | exact absurd ((by decide)) h60)) (fun h60 => ?_)
        refine zo_iconst (i := i_Mo_come) (pc := 63) (v := 0) d_Mo_come_63 (by decide) ?_
        refine zo_ireturn (i := i_Mo_come) (pc := 64) hq d_Mo_come_64 rfl (Nat.le_of_ble_eq_true rfl) (Nat.le_of_ble_eq_true rfl) ?_
        exact k1 hg ws ⟨_, _, hr.thrown, hs⟩
    · by_cases hg : (f = 0 ∨ zaddr f = true) ∧ (a = 65535 ∨ zaddr a = true)
      · cases hdn : q.1.2.2.2.2.2.2
        · refine zo_iload_n (i := i_Mo_come) (pc := 0) d_Mo_come_0 rfl ?_
          refine zo_ldc (i := i_Mo_come) (pc := 1) d_Mo_come_1 (ztb_of k_853 rfl) ?_
          refine zo_icmp_ne (i := i_Mo_come) (pc := 3) (tgt := 10) d_Mo_come_3 (by decide) (fun h3 => ?_) (fun h3 => False.elim (by first | exact absurd h3 (hgr) | exact absurd (hgr) h3))
          refine zo_iconst (i := i_Mo_come) (pc := 10) (v := 0) d_Mo_come_10 (by decide) ?_
          refine zo_istore_n (i := i_Mo_come) (pc := 11) d_Mo_come_11 (Nat.le_of_ble_eq_true rfl) ?_
          refine zo_aload_n (i := i_Mo_come) (pc := 12) d_Mo_come_12 rfl rfl ?_
          refine zo_iload_n (i := i_Mo_come) (pc := 13) d_Mo_come_13 rfl ?_
          refine zo_if_eq (i := i_Mo_come) (pc := 14) (tgt := 25) d_Mo_come_14 (by decide) (fun h14 => False.elim (by first | exact absurd h14 (hf0) | exact absurd (hf0) h14)) (fun h14 => ?_)
          refine zo_aload_n (i := i_Mo_come) (pc := 17) d_Mo_come_17 rfl rfl ?_
          refine zo_iload_n (i := i_Mo_come) (pc := 18) d_Mo_come_18 rfl ?_
          refine zc_V1 (i := i_Mo_come) (pc := 19) 10 rfl m_Mo_isAddress (ztb_of k_1056 rfl) (ztb_of k_1058 rfl) s_Mo_isAddress d_Mo_come_19 (Nat.le_of_ble_eq_true rfl) (Nat.le_of_ble_eq_true rfl) (Nat.le_of_ble_eq_true rfl) (Nat.le_of_ble_eq_true rfl) (hs.get (t := 0) rfl) (c_Mo_isAddress ?_)
          refine zo_if_eq (i := i_Mo_come) (pc := 22) (tgt := 37) d_Mo_come_22 (by decide) (fun h22 => False.elim (by first | exact absurd h22 ((by rw [hg.1.resolve_left hf0]; decide)) | exact absurd ((by rw [hg.1.resolve_left hf0]; decide)) h22)) (fun h22 => ?_)
          refine zo_iload_n (i := i_Mo_come) (pc := 25) d_Mo_come_25 rfl ?_
          refine zo_if_ne (i := i_Mo_come) (pc := 26) (tgt := 41) d_Mo_come_26 (by decide) (fun h26 => False.elim (by first | exact absurd h26 (rfl) | exact absurd (rfl) h26)) (fun h26 => ?_)
          refine zo_aload_n (i := i_Mo_come) (pc := 29) d_Mo_come_29 rfl rfl ?_
          refine zo_iload_n (i := i_Mo_come) (pc := 30) d_Mo_come_30 rfl ?_
          refine zc_V1 (i := i_Mo_come) (pc := 31) 10 rfl m_Mo_isAddress (ztb_of k_1056 rfl) (ztb_of k_1058 rfl) s_Mo_isAddress d_Mo_come_31 (Nat.le_of_ble_eq_true rfl) (Nat.le_of_ble_eq_true rfl) (Nat.le_of_ble_eq_true rfl) (Nat.le_of_ble_eq_true rfl) (hs.get (t := 0) rfl) (c_Mo_isAddress ?_)
          refine zo_if_ne (i := i_Mo_come) (pc := 34) (tgt := 41) d_Mo_come_34 (by decide) (fun h34 => ?_) (fun h34 => False.elim (by first | exact absurd h34 ((by rw [hg.2.resolve_left hgr]; decide)) | exact absurd ((by rw [hg.2.resolve_left hgr]; decide)) h34))
          refine zo_aload_n (i := i_Mo_come) (pc := 41) d_Mo_come_41 rfl rfl ?_
          refine zo_get (i := i_Mo_come) (pc := 42) 10 3 rfl zok_Mo (Nat.le_of_ble_eq_true rfl) (ztb_of k_861 rfl) d_Mo_come_42 (fun _ _ _ h => h) (hs.get (t := 0) rfl) rfl ?_
          refine zo_if_eq (i := i_Mo_come) (pc := 45) (tgt := 52) d_Mo_come_45 (by decide) (fun h45 => ?_) (fun h45 => False.elim (by first | exact absurd h45 ((by rw [hr.1.2.2.2.1, hdn]; rfl)) | exact absurd ((by rw [hr.1.2.2.2.1, hdn]; rfl)) h45))
          refine zo_iconst (i := i_Mo_come) (pc := 52) (v := 0) d_Mo_come_52 (by decide) ?_
          refine zh_put (i := i_Mo_come) (pc := 53) 10 0 rfl zok_Mo (Nat.le_of_ble_eq_true rfl) (ztb_of k_858 rfl) rfl d_Mo_come_53 (fun _ _ _ h => h) (t_Mo_ok 0 (Nat.le_of_ble_eq_true rfl)) rfl rfl hs 0 rfl (Nat.le_of_ble_eq_true rfl) fun ws hs => ?_
          refine zo_aload_n (i := i_Mo_come) (pc := 56) d_Mo_come_56 rfl rfl ?_
          refine zo_get (i := i_Mo_come) (pc := 57) 10 0 rfl zok_Mo (Nat.le_of_ble_eq_true rfl) (ztb_of k_858 rfl) d_Mo_come_57 (fun _ _ _ h => h) (hs.get (t := 0) rfl) rfl ?_
          refine zo_if_eq (i := i_Mo_come) (pc := 60) (tgt := 65) d_Mo_come_60 (by decide) (fun h60 => ?_) (fun h60 => False.elim (by first | exact absurd h60 (rfl) | exact absurd (rfl) h60))
          obtain ⟨m, F, hr, hs⟩ : mS g B q 0 R ws := ⟨_, _, hr.thrown, hs⟩
          have h29 : m 29 = nI q.2.2.2.2.2.2.2.1 := hr.2.2.2.2.2.1
          refine zo_aload_n (i := i_Mo_come) (pc := 65) d_Mo_come_65 rfl rfl ?_
          refine zo_get (i := i_Mo_come) (pc := 66) 10 29 rfl zok_Mo (Nat.le_of_ble_eq_true rfl) (ztb_of k_887 rfl) d_Mo_come_66 (fun _ _ _ h => h) (hs.get (t := 0) rfl) rfl ?_
          rw [h29]
          refine zo_istore (i := i_Mo_come) (pc := 69) d_Mo_come_69 (Nat.le_of_ble_eq_true rfl) ?_
          refine zo_aload_n (i := i_Mo_come) (pc := 71) d_Mo_come_71 rfl rfl ?_
          refine zo_iconst (i := i_Mo_come) (pc := 72) (v := 0) d_Mo_come_72 (by decide) ?_
          refine zh_put (i := i_Mo_come) (pc := 73) 10 29 rfl zok_Mo (Nat.le_of_ble_eq_true rfl) (ztb_of k_887 rfl) rfl d_Mo_come_73 (fun _ _ _ h => h) (t_Mo_ok 29 (Nat.le_of_ble_eq_true rfl)) rfl rfl hs 0 rfl (Nat.le_of_ble_eq_true rfl) fun ws hs => ?_
          replace hs : zHas ws (moW g B (mup m 29 0) F ++ R) := hs
          obtain ⟨m, F, hr, hs⟩ : mS g B (clearT q) 0 R ws := ⟨_, _, hr.clear, hs⟩
          
          refine zo_iload_n (i := i_Mo_come) (pc := 76) d_Mo_come_76 rfl ?_
          refine zo_if_ne (i := i_Mo_come) (pc := 77) (tgt := 94) d_Mo_come_77 (by decide) (fun h77 => False.elim (by first | exact absurd h77 (rfl) | exact absurd (rfl) h77)) (fun h77 => ?_)
          refine zo_aload_n (i := i_Mo_come) (pc := 80) d_Mo_come_80 rfl rfl ?_
          refine zo_aload_n (i := i_Mo_come) (pc := 81) d_Mo_come_81 rfl rfl ?_
          refine zo_iload_n (i := i_Mo_come) (pc := 82) d_Mo_come_82 rfl ?_
          refine zc_V1 (i := i_Mo_come) (pc := 83) 10 rfl m_Mo_ownAt (ztb_of k_1044 rfl) (ztb_of k_1046 rfl) s_Mo_ownAt d_Mo_come_83 (Nat.le_of_ble_eq_true rfl) (Nat.le_of_ble_eq_true rfl) (Nat.le_of_ble_eq_true rfl) (Nat.le_of_ble_eq_true rfl) (hs.get (t := 0) rfl) (l_ownAt ⟨_, _, hr, hs⟩ (fun j x hx hxa hf hset => ?_) (fun hf => ?_))
          · refine zc_V1 (i := i_Mo_come) (pc := 86) 10 rfl m_Mo_usable (ztb_of k_1069 rfl) (ztb_of k_1071 rfl) s_Mo_usable d_Mo_come_86 (Nat.le_of_ble_eq_true rfl) (Nat.le_of_ble_eq_true rfl) (Nat.le_of_ble_eq_true rfl) (Nat.le_of_ble_eq_true rfl) (hs.get (t := 0) rfl) (l_usable ⟨_, _, hr, hs⟩ hx ?_)
            refine zo_if_ne (i := i_Mo_come) (pc := 89) (tgt := 94) d_Mo_come_89 (by decide) (fun h89 => ?_) (fun h89 => ?_)
            · have hfor : forT q a = true := by unfold forT; rw [show q.2.2.1.find? (fun e => decide (e.1 = a)) = some x from hf]; simp only; rw [zb_ne h89]; exact Bool.or_true _
              refine zo_iconst (i := i_Mo_come) (pc := 94) (v := 0) d_Mo_come_94 (by decide) ?_
              rw [← nI_0]
              refine zo_istore (i := i_Mo_come) (pc := 95) d_Mo_come_95 (Nat.le_of_ble_eq_true rfl) ?_
              refine zo_iconst (i := i_Mo_come) (pc := 97) (v := 0) d_Mo_come_97 (by decide) ?_
              rw [nI_0]
              refine zo_istore (i := i_Mo_come) (pc := 98) d_Mo_come_98 (Nat.le_of_ble_eq_true rfl) ?_
              refine loop false q.2.2.2.2.2.2.2.1 0 q ws (by omega) ⟨_, _, hr, hs⟩ rfl (by omega) (fun w hw => ?_)
              have kk := k0 hg hdn w
              unfold comeT at kk
              rw [if_pos hfor, decide_eq_false hgr] at kk
              exact kk hw
            · have hfor : forT q a = false := by unfold forT; rw [decide_eq_false hgr, show q.2.2.1.find? (fun e => decide (e.1 = a)) = some x from hf]; exact zb_eq h89
              refine zo_iconst (i := i_Mo_come) (pc := 92) (v := 0) d_Mo_come_92 (by decide) ?_
              refine zo_ireturn (i := i_Mo_come) (pc := 93) hq d_Mo_come_93 rfl (Nat.le_of_ble_eq_true rfl) (Nat.le_of_ble_eq_true rfl) ?_
              have kk := k0 hg hdn ws
              unfold comeT at kk
              rw [if_neg (by rw [hfor]; decide)] at kk
              exact kk ⟨_, _, hr, hs⟩
          · refine zc_V1 (i := i_Mo_come) (pc := 86) 10 rfl m_Mo_usable (ztb_of k_1069 rfl) (ztb_of k_1071 rfl) s_Mo_usable d_Mo_come_86 (Nat.le_of_ble_eq_true rfl) (Nat.le_of_ble_eq_true rfl) (Nat.le_of_ble_eq_true rfl) (Nat.le_of_ble_eq_true rfl) (hs.get (t := 0) rfl) (c_Mo_usableN (by decide) ?_)
            refine zo_if_ne (i := i_Mo_come) (pc := 89) (tgt := 94) d_Mo_come_89 (by decide) (fun h89 => False.elim (by first | exact absurd h89 (rfl) | exact absurd (rfl) h89)) (fun h89 => ?_)
            refine zo_iconst (i := i_Mo_come) (pc := 92) (v := 0) d_Mo_come_92 (by decide) ?_
            refine zo_ireturn (i := i_Mo_come) (pc := 93) hq d_Mo_come_93 rfl (Nat.le_of_ble_eq_true rfl) (Nat.le_of_ble_eq_true rfl) ?_
            have hfor : forT q a = false := by unfold forT; rw [decide_eq_false hgr, show q.2.2.1.find? (fun e => decide (e.1 = a)) = none from hf]; rfl
            have kk := k0 hg hdn ws
            unfold comeT at kk
            rw [if_neg (by rw [hfor]; decide)] at kk
            exact kk ⟨_, _, hr, hs⟩
        · refine zo_iload_n (i := i_Mo_come) (pc := 0) d_Mo_come_0 rfl ?_
          refine zo_ldc (i := i_Mo_come) (pc := 1) d_Mo_come_1 (ztb_of k_853 rfl) ?_
          refine zo_icmp_ne (i := i_Mo_come) (pc := 3) (tgt := 10) d_Mo_come_3 (by decide) (fun h3 => ?_) (fun h3 => False.elim (by first | exact absurd h3 (hgr) | exact absurd (hgr) h3))
          refine zo_iconst (i := i_Mo_come) (pc := 10) (v := 0) d_Mo_come_10 (by decide) ?_
          refine zo_istore_n (i := i_Mo_come) (pc := 11) d_Mo_come_11 (Nat.le_of_ble_eq_true rfl) ?_
          refine zo_aload_n (i := i_Mo_come) (pc := 12) d_Mo_come_12 rfl rfl ?_
          refine zo_iload_n (i := i_Mo_come) (pc := 13) d_Mo_come_13 rfl ?_
          refine zo_if_eq (i := i_Mo_come) (pc := 14) (tgt := 25) d_Mo_come_14 (by decide) (fun h14 => False.elim (by first | exact absurd h14 (hf0) | exact absurd (hf0) h14)) (fun h14 => ?_)
          refine zo_aload_n (i := i_Mo_come) (pc := 17) d_Mo_come_17 rfl rfl ?_
          refine zo_iload_n (i := i_Mo_come) (pc := 18) d_Mo_come_18 rfl ?_
          refine zc_V1 (i := i_Mo_come) (pc := 19) 10 rfl m_Mo_isAddress (ztb_of k_1056 rfl) (ztb_of k_1058 rfl) s_Mo_isAddress d_Mo_come_19 (Nat.le_of_ble_eq_true rfl) (Nat.le_of_ble_eq_true rfl) (Nat.le_of_ble_eq_true rfl) (Nat.le_of_ble_eq_true rfl) (hs.get (t := 0) rfl) (c_Mo_isAddress ?_)
          refine zo_if_eq (i := i_Mo_come) (pc := 22) (tgt := 37) d_Mo_come_22 (by decide) (fun h22 => False.elim (by first | exact absurd h22 ((by rw [hg.1.resolve_left hf0]; decide)) | exact absurd ((by rw [hg.1.resolve_left hf0]; decide)) h22)) (fun h22 => ?_)
          refine zo_iload_n (i := i_Mo_come) (pc := 25) d_Mo_come_25 rfl ?_
          refine zo_if_ne (i := i_Mo_come) (pc := 26) (tgt := 41) d_Mo_come_26 (by decide) (fun h26 => False.elim (by first | exact absurd h26 (rfl) | exact absurd (rfl) h26)) (fun h26 => ?_)
          refine zo_aload_n (i := i_Mo_come) (pc := 29) d_Mo_come_29 rfl rfl ?_
          refine zo_iload_n (i := i_Mo_come) (pc := 30) d_Mo_come_30 rfl ?_
          refine zc_V1 (i := i_Mo_come) (pc := 31) 10 rfl m_Mo_isAddress (ztb_of k_1056 rfl) (ztb_of k_1058 rfl) s_Mo_isAddress d_Mo_come_31 (Nat.le_of_ble_eq_true rfl) (Nat.le_of_ble_eq_true rfl) (Nat.le_of_ble_eq_true rfl) (Nat.le_of_ble_eq_true rfl) (hs.get (t := 0) rfl) (c_Mo_isAddress ?_)
          refine zo_if_ne (i := i_Mo_come) (pc := 34) (tgt := 41) d_Mo_come_34 (by decide) (fun h34 => ?_) (fun h34 => False.elim (by first | exact absurd h34 ((by rw [hg.2.resolve_left hgr]; decide)) | exact absurd ((by rw [hg.2.resolve_left hgr]; decide)) h34))
          refine zo_aload_n (i := i_Mo_come) (pc := 41) d_Mo_come_41 rfl rfl ?_
          refine zo_get (i := i_Mo_come) (pc := 42) 10 3 rfl zok_Mo (Nat.le_of_ble_eq_true rfl) (ztb_of k_861 rfl) d_Mo_come_42 (fun _ _ _ h => h) (hs.get (t := 0) rfl) rfl ?_
          refine zo_if_eq (i := i_Mo_come) (pc := 45) (tgt := 52) d_Mo_come_45 (by decide) (fun h45 => False.elim (by first | exact absurd h45 ((by rw [hr.1.2.2.2.1, hdn]; decide)) | exact absurd ((by rw [hr.1.2.2.2.1, hdn]; decide)) h45)) (fun h45 => ?_)
          refine zo_iconst (i := i_Mo_come) (pc := 48) (v := 2) d_Mo_come_48 (by decide) ?_
          refine zo_goto (i := i_Mo_come) (pc := 49) (tgt := 53) d_Mo_come_49 (by decide) ?_
          refine zh_put (i := i_Mo_come) (pc := 53) 10 0 rfl zok_Mo (Nat.le_of_ble_eq_true rfl) (ztb_of k_858 rfl) rfl d_Mo_come_53 (fun _ _ _ h => h) (t_Mo_ok 0 (Nat.le_of_ble_eq_true rfl)) rfl rfl hs 0 rfl (Nat.le_of_ble_eq_true rfl) fun ws hs => ?_
          refine zo_aload_n (i := i_Mo_come) (pc := 56) d_Mo_come_56 rfl rfl ?_
          refine zo_get (i := i_Mo_come) (pc := 57) 10 0 rfl zok_Mo (Nat.le_of_ble_eq_true rfl) (ztb_of k_858 rfl) d_Mo_come_57 (fun _ _ _ h => h) (hs.get (t := 0) rfl) rfl ?_
          refine zo_if_eq (i := i_Mo_come) (pc := 60) (tgt := 65) d_Mo_come_60 (by decide) (fun h60 => False.elim (by first | exact absurd h60 ((by decide)) | exact absurd ((by decide)) h60)) (fun h60 => ?_)
          refine zo_iconst (i := i_Mo_come) (pc := 63) (v := 0) d_Mo_come_63 (by decide) ?_
          refine zo_ireturn (i := i_Mo_come) (pc := 64) hq d_Mo_come_64 rfl (Nat.le_of_ble_eq_true rfl) (Nat.le_of_ble_eq_true rfl) ?_
          exact k2 hg hdn ws ⟨_, _, hr.thrown, hs⟩
      · refine zo_iload_n (i := i_Mo_come) (pc := 0) d_Mo_come_0 rfl ?_
        refine zo_ldc (i := i_Mo_come) (pc := 1) d_Mo_come_1 (ztb_of k_853 rfl) ?_
        refine zo_icmp_ne (i := i_Mo_come) (pc := 3) (tgt := 10) d_Mo_come_3 (by decide) (fun h3 => ?_) (fun h3 => False.elim (by first | exact absurd h3 (hgr) | exact absurd (hgr) h3))
        refine zo_iconst (i := i_Mo_come) (pc := 10) (v := 0) d_Mo_come_10 (by decide) ?_
        refine zo_istore_n (i := i_Mo_come) (pc := 11) d_Mo_come_11 (Nat.le_of_ble_eq_true rfl) ?_
        refine zo_aload_n (i := i_Mo_come) (pc := 12) d_Mo_come_12 rfl rfl ?_
        refine zo_iload_n (i := i_Mo_come) (pc := 13) d_Mo_come_13 rfl ?_
        refine zo_if_eq (i := i_Mo_come) (pc := 14) (tgt := 25) d_Mo_come_14 (by decide) (fun h14 => False.elim (by first | exact absurd h14 (hf0) | exact absurd (hf0) h14)) (fun h14 => ?_)
        refine zo_aload_n (i := i_Mo_come) (pc := 17) d_Mo_come_17 rfl rfl ?_
        refine zo_iload_n (i := i_Mo_come) (pc := 18) d_Mo_come_18 rfl ?_
        refine zc_V1 (i := i_Mo_come) (pc := 19) 10 rfl m_Mo_isAddress (ztb_of k_1056 rfl) (ztb_of k_1058 rfl) s_Mo_isAddress d_Mo_come_19 (Nat.le_of_ble_eq_true rfl) (Nat.le_of_ble_eq_true rfl) (Nat.le_of_ble_eq_true rfl) (Nat.le_of_ble_eq_true rfl) (hs.get (t := 0) rfl) (c_Mo_isAddress ?_)
        refine zo_if_eq (i := i_Mo_come) (pc := 22) (tgt := 37) d_Mo_come_22 (by decide) (fun h22 => ?_) (fun h22 => ?_)
        · refine zo_iconst (i := i_Mo_come) (pc := 37) (v := 1) d_Mo_come_37 (by decide) ?_
          refine zo_goto (i := i_Mo_come) (pc := 38) (tgt := 53) d_Mo_come_38 (by decide) ?_
          refine zh_put (i := i_Mo_come) (pc := 53) 10 0 rfl zok_Mo (Nat.le_of_ble_eq_true rfl) (ztb_of k_858 rfl) rfl d_Mo_come_53 (fun _ _ _ h => h) (t_Mo_ok 0 (Nat.le_of_ble_eq_true rfl)) rfl rfl hs 0 rfl (Nat.le_of_ble_eq_true rfl) fun ws hs => ?_
          refine zo_aload_n (i := i_Mo_come) (pc := 56) d_Mo_come_56 rfl rfl ?_
          refine zo_get (i := i_Mo_come) (pc := 57) 10 0 rfl zok_Mo (Nat.le_of_ble_eq_true rfl) (ztb_of k_858 rfl) d_Mo_come_57 (fun _ _ _ h => h) (hs.get (t := 0) rfl) rfl ?_
          refine zo_if_eq (i := i_Mo_come) (pc := 60) (tgt := 65) d_Mo_come_60 (by decide) (fun h60 => False.elim (by first | exact absurd h60 ((by decide)) | exact absurd ((by decide)) h60)) (fun h60 => ?_)
          refine zo_iconst (i := i_Mo_come) (pc := 63) (v := 0) d_Mo_come_63 (by decide) ?_
          refine zo_ireturn (i := i_Mo_come) (pc := 64) hq d_Mo_come_64 rfl (Nat.le_of_ble_eq_true rfl) (Nat.le_of_ble_eq_true rfl) ?_
          exact k1 hg ws ⟨_, _, hr.thrown, hs⟩
        · refine zo_iload_n (i := i_Mo_come) (pc := 25) d_Mo_come_25 rfl ?_
          refine zo_if_ne (i := i_Mo_come) (pc := 26) (tgt := 41) d_Mo_come_26 (by decide) (fun h26 => False.elim (by first | exact absurd h26 (rfl) | exact absurd (rfl) h26)) (fun h26 => ?_)
          refine zo_aload_n (i := i_Mo_come) (pc := 29) d_Mo_come_29 rfl rfl ?_
          refine zo_iload_n (i := i_Mo_come) (pc := 30) d_Mo_come_30 rfl ?_
          refine zc_V1 (i := i_Mo_come) (pc := 31) 10 rfl m_Mo_isAddress (ztb_of k_1056 rfl) (ztb_of k_1058 rfl) s_Mo_isAddress d_Mo_come_31 (Nat.le_of_ble_eq_true rfl) (Nat.le_of_ble_eq_true rfl) (Nat.le_of_ble_eq_true rfl) (Nat.le_of_ble_eq_true rfl) (hs.get (t := 0) rfl) (c_Mo_isAddress ?_)
          refine zo_if_ne (i := i_Mo_come) (pc := 34) (tgt := 41) d_Mo_come_34 (by decide) (fun h34 => False.elim (by first | exact absurd h34 ((zb_no (fun hz => hg ⟨.inr (zb_ne h22), .inr hz⟩))) | exact absurd ((zb_no (fun hz => hg ⟨.inr (zb_ne h22), .inr hz⟩))) h34)) (fun h34 => ?_)
          refine zo_iconst (i := i_Mo_come) (pc := 37) (v := 1) d_Mo_come_37 (by decide) ?_
          refine zo_goto (i := i_Mo_come) (pc := 38) (tgt := 53) d_Mo_come_38 (by decide) ?_
          refine zh_put (i := i_Mo_come) (pc := 53) 10 0 rfl zok_Mo (Nat.le_of_ble_eq_true rfl) (ztb_of k_858 rfl) rfl d_Mo_come_53 (fun _ _ _ h => h) (t_Mo_ok 0 (Nat.le_of_ble_eq_true rfl)) rfl rfl hs 0 rfl (Nat.le_of_ble_eq_true rfl) fun ws hs => ?_
          refine zo_aload_n (i := i_Mo_come) (pc := 56) d_Mo_come_56 rfl rfl ?_
          refine zo_get (i := i_Mo_come) (pc := 57) 10 0 rfl zok_Mo (Nat.le_of_ble_eq_true rfl) (ztb_of k_858 rfl) d_Mo_come_57 (fun _ _ _ h => h) (hs.get (t := 0) rfl) rfl ?_
          refine zo_if_eq (i := i_Mo_come) (pc := 60) (tgt := 65) d_Mo_come_60 (by decide) (fun h60 => False.elim (by first | exact absurd h60 ((by decide)) | exact absurd ((by decide)) h60)) (fun h60 => ?_)
          refine zo_iconst (i := i_Mo_come) (pc := 63) (v := 0) d_Mo_come_63 (by decide) ?_
          refine zo_ireturn (i := i_Mo_come) (pc := 64) hq d_Mo_come_64 rfl (Nat.le_of_ble_eq_true rfl) (Nat.le_of_ble_eq_true rfl) ?_
          exact k1 hg ws ⟨_, _, hr.thrown, hs⟩
