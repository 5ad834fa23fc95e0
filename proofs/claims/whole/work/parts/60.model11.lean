/-! The model: headers (walks by a program, gen60.py). -/
theorem c_Mo_header {g : zG} {ws : va_W} {post : Option Value → va_W → Prop} {B : Nat → Nat} {m : Nat → Int32} {F : Nat → Nat → Int32} {R : va_W} (hs : zHas ws (moW g B m F ++ R)) {h : Nat} {a b : Int32} (hm : m 29 = nI h) (hh : h ≤ 6) (k0 : (zwithin a 0 9 = true ∧ zwithin b 0 3 = true) → h < 6 → ∀ w, zHas w (moW g B (mup (mup m 0 0) 29 (nI (h + 1))) (mup (mup F 30 (upd (F 30) h a)) 31 (upd (F 31) h b)) ++ R) → post (some (.int (nI (h + 1)))) w) (k1 : ¬ (zwithin a 0 9 = true ∧ zwithin b 0 3 = true) → ∀ w, zHas w (moW g B (mup m 0 1) F ++ R) → post (some (.int 0)) w) (k2 : (zwithin a 0 9 = true ∧ zwithin b 0 3 = true) → h = 6 → ∀ w, zHas w (moW g B (mup m 0 2) F ++ R) → post (some (.int 0)) w) : zC g i_Mo_header [.ref (B 0), .int a, .int b] ws post := by
  refine zC.intro (by decide +kernel) rfl (Nat.le_of_ble_eq_true rfl) fun x0 hq => ?_
  refine zo_aload_n (i := i_Mo_header) (pc := 0) d_Mo_header_0 rfl rfl ?_
  refine zo_iload_n (i := i_Mo_header) (pc := 1) d_Mo_header_1 rfl ?_
  refine zo_if_lt (i := i_Mo_header) (pc := 2) (tgt := 20) d_Mo_header_2 (by decide) (fun h2 => ?_) (fun h2 => ?_)
  · refine zo_iconst (i := i_Mo_header) (pc := 20) (v := 1) d_Mo_header_20 (by decide) ?_
    refine zo_goto (i := i_Mo_header) (pc := 21) (tgt := 38) d_Mo_header_21 (by decide) ?_
    refine zh_put (i := i_Mo_header) (pc := 38) 10 0 rfl zok_Mo (Nat.le_of_ble_eq_true rfl) (ztb_of k_858 rfl) rfl d_Mo_header_38 (fun _ _ _ h => h) (t_Mo_ok 0 (Nat.le_of_ble_eq_true rfl)) rfl rfl hs 0 rfl (Nat.le_of_ble_eq_true rfl) fun ws hs => ?_
    refine zo_aload_n (i := i_Mo_header) (pc := 41) d_Mo_header_41 rfl rfl ?_
    refine zo_get (i := i_Mo_header) (pc := 42) 10 0 rfl zok_Mo (Nat.le_of_ble_eq_true rfl) (ztb_of k_858 rfl) d_Mo_header_42 (fun _ _ _ h => h) (hs.get (t := 0) rfl) rfl ?_
    refine zo_if_eq (i := i_Mo_header) (pc := 45) (tgt := 50) d_Mo_header_45 (by decide) (fun h45 => False.elim (by first | exact absurd h45 ((by decide)) | exact absurd ((by decide)) h45)) (fun h45 => ?_)
    refine zo_iconst (i := i_Mo_header) (pc := 48) (v := 0) d_Mo_header_48 (by decide) ?_
    refine zo_ireturn (i := i_Mo_header) (pc := 49) hq d_Mo_header_49 rfl (Nat.le_of_ble_eq_true rfl) (Nat.le_of_ble_eq_true rfl) ?_
    exact k1 (fun q => by
      simp [zwithin] at q
      exact absurd h2 (Int32.not_lt.mpr q.1.1)) ws hs
  · refine zo_iload_n (i := i_Mo_header) (pc := 5) d_Mo_header_5 rfl ?_
    refine zo_bipush (i := i_Mo_header) (pc := 6) (v := 9) d_Mo_header_6 (by decide) ?_
    refine zo_icmp_gt (i := i_Mo_header) (pc := 8) (tgt := 20) d_Mo_header_8 (by decide) (fun h8 => ?_) (fun h8 => ?_)
    · refine zo_iconst (i := i_Mo_header) (pc := 20) (v := 1) d_Mo_header_20 (by decide) ?_
      refine zo_goto (i := i_Mo_header) (pc := 21) (tgt := 38) d_Mo_header_21 (by decide) ?_
      refine zh_put (i := i_Mo_header) (pc := 38) 10 0 rfl zok_Mo (Nat.le_of_ble_eq_true rfl) (ztb_of k_858 rfl) rfl d_Mo_header_38 (fun _ _ _ h => h) (t_Mo_ok 0 (Nat.le_of_ble_eq_true rfl)) rfl rfl hs 0 rfl (Nat.le_of_ble_eq_true rfl) fun ws hs => ?_
      refine zo_aload_n (i := i_Mo_header) (pc := 41) d_Mo_header_41 rfl rfl ?_
      refine zo_get (i := i_Mo_header) (pc := 42) 10 0 rfl zok_Mo (Nat.le_of_ble_eq_true rfl) (ztb_of k_858 rfl) d_Mo_header_42 (fun _ _ _ h => h) (hs.get (t := 0) rfl) rfl ?_
      refine zo_if_eq (i := i_Mo_header) (pc := 45) (tgt := 50) d_Mo_header_45 (by decide) (fun h45 => False.elim (by first | exact absurd h45 ((by decide)) | exact absurd ((by decide)) h45)) (fun h45 => ?_)
      refine zo_iconst (i := i_Mo_header) (pc := 48) (v := 0) d_Mo_header_48 (by decide) ?_
      refine zo_ireturn (i := i_Mo_header) (pc := 49) hq d_Mo_header_49 rfl (Nat.le_of_ble_eq_true rfl) (Nat.le_of_ble_eq_true rfl) ?_
      exact k1 (fun q => by
        simp [zwithin] at q
        exact absurd h8 (Int32.not_lt.mpr q.1.2)) ws hs
    · refine zo_iload_n (i := i_Mo_header) (pc := 11) d_Mo_header_11 rfl ?_
      refine zo_if_lt (i := i_Mo_header) (pc := 12) (tgt := 20) d_Mo_header_12 (by decide) (fun h12 => ?_) (fun h12 => ?_)
      · refine zo_iconst (i := i_Mo_header) (pc := 20) (v := 1) d_Mo_header_20 (by decide) ?_
        refine zo_goto (i := i_Mo_header) (pc := 21) (tgt := 38) d_Mo_header_21 (by decide) ?_
        refine zh_put (i := i_Mo_header) (pc := 38) 10 0 rfl zok_Mo (Nat.le_of_ble_eq_true rfl) (ztb_of k_858 rfl) rfl d_Mo_header_38 (fun _ _ _ h => h) (t_Mo_ok 0 (Nat.le_of_ble_eq_true rfl)) rfl rfl hs 0 rfl (Nat.le_of_ble_eq_true rfl) fun ws hs => ?_
        refine zo_aload_n (i := i_Mo_header) (pc := 41) d_Mo_header_41 rfl rfl ?_
        refine zo_get (i := i_Mo_header) (pc := 42) 10 0 rfl zok_Mo (Nat.le_of_ble_eq_true rfl) (ztb_of k_858 rfl) d_Mo_header_42 (fun _ _ _ h => h) (hs.get (t := 0) rfl) rfl ?_
        refine zo_if_eq (i := i_Mo_header) (pc := 45) (tgt := 50) d_Mo_header_45 (by decide) (fun h45 => False.elim (by first | exact absurd h45 ((by decide)) | exact absurd ((by decide)) h45)) (fun h45 => ?_)
        refine zo_iconst (i := i_Mo_header) (pc := 48) (v := 0) d_Mo_header_48 (by decide) ?_
        refine zo_ireturn (i := i_Mo_header) (pc := 49) hq d_Mo_header_49 rfl (Nat.le_of_ble_eq_true rfl) (Nat.le_of_ble_eq_true rfl) ?_
        exact k1 (fun q => by
          simp [zwithin] at q
          exact absurd h12 (Int32.not_lt.mpr q.2.1)) ws hs
      · refine zo_iload_n (i := i_Mo_header) (pc := 15) d_Mo_header_15 rfl ?_
        refine zo_iconst (i := i_Mo_header) (pc := 16) (v := 3) d_Mo_header_16 (by decide) ?_
        refine zo_icmp_le (i := i_Mo_header) (pc := 17) (tgt := 24) d_Mo_header_17 (by decide) (fun h17 => ?_) (fun h17 => ?_)
        · refine zo_aload_n (i := i_Mo_header) (pc := 24) d_Mo_header_24 rfl rfl ?_
          refine zo_get (i := i_Mo_header) (pc := 25) 10 29 rfl zok_Mo (Nat.le_of_ble_eq_true rfl) (ztb_of k_887 rfl) d_Mo_header_25 (fun _ _ _ h => h) (hs.get (t := 0) rfl) rfl ?_
          refine zo_bipush (i := i_Mo_header) (pc := 28) (v := 6) d_Mo_header_28 (by decide) ?_
          refine zo_icmp_ne (i := i_Mo_header) (pc := 30) (tgt := 37) d_Mo_header_30 (by decide) (fun h30 => ?_) (fun h30 => ?_)
          · refine zo_iconst (i := i_Mo_header) (pc := 37) (v := 0) d_Mo_header_37 (by decide) ?_
            refine zh_put (i := i_Mo_header) (pc := 38) 10 0 rfl zok_Mo (Nat.le_of_ble_eq_true rfl) (ztb_of k_858 rfl) rfl d_Mo_header_38 (fun _ _ _ h => h) (t_Mo_ok 0 (Nat.le_of_ble_eq_true rfl)) rfl rfl hs 0 rfl (Nat.le_of_ble_eq_true rfl) fun ws hs => ?_
            refine zo_aload_n (i := i_Mo_header) (pc := 41) d_Mo_header_41 rfl rfl ?_
            refine zo_get (i := i_Mo_header) (pc := 42) 10 0 rfl zok_Mo (Nat.le_of_ble_eq_true rfl) (ztb_of k_858 rfl) d_Mo_header_42 (fun _ _ _ h => h) (hs.get (t := 0) rfl) rfl ?_
            refine zo_if_eq (i := i_Mo_header) (pc := 45) (tgt := 50) d_Mo_header_45 (by decide) (fun h45 => ?_) (fun h45 => False.elim (by first | exact absurd h45 (rfl) | exact absurd (rfl) h45))
            refine zo_aload_n (i := i_Mo_header) (pc := 50) d_Mo_header_50 rfl rfl ?_
            refine zo_get (i := i_Mo_header) (pc := 51) 10 30 rfl zok_Mo (Nat.le_of_ble_eq_true rfl) (ztb_of k_888 rfl) d_Mo_header_51 (fun _ _ _ h => h) (hs.get (t := 0) rfl) rfl ?_
            refine zo_aload_n (i := i_Mo_header) (pc := 54) d_Mo_header_54 rfl rfl ?_
            refine zo_get (i := i_Mo_header) (pc := 55) 10 29 rfl zok_Mo (Nat.le_of_ble_eq_true rfl) (ztb_of k_887 rfl) d_Mo_header_55 (fun _ _ _ h => h) (hs.get (t := 0) rfl) rfl ?_
            refine zo_iload_n (i := i_Mo_header) (pc := 58) d_Mo_header_58 rfl ?_
            refine zh_iastore (i := i_Mo_header) (pc := 59) d_Mo_header_59 hs 19 rfl (by show vp_in (m 29) 6; rw [hm]; exact vp_in_nI (by rw [hm] at h30; rcases Nat.lt_or_ge h 6 with q | q; exact q; exact absurd (show nI h = 6 by rw [show h = 6 by omega]; rfl) h30) (by decide)) fun ws hs => ?_
            refine zo_aload_n (i := i_Mo_header) (pc := 60) d_Mo_header_60 rfl rfl ?_
            refine zo_get (i := i_Mo_header) (pc := 61) 10 31 rfl zok_Mo (Nat.le_of_ble_eq_true rfl) (ztb_of k_889 rfl) d_Mo_header_61 (fun _ _ _ h => h) (hs.get (t := 0) rfl) rfl ?_
            refine zo_aload_n (i := i_Mo_header) (pc := 64) d_Mo_header_64 rfl rfl ?_
            refine zo_get (i := i_Mo_header) (pc := 65) 10 29 rfl zok_Mo (Nat.le_of_ble_eq_true rfl) (ztb_of k_887 rfl) d_Mo_header_65 (fun _ _ _ h => h) (hs.get (t := 0) rfl) rfl ?_
            refine zo_iload_n (i := i_Mo_header) (pc := 68) d_Mo_header_68 rfl ?_
            refine zh_iastore (i := i_Mo_header) (pc := 69) d_Mo_header_69 hs 20 rfl (by show vp_in (m 29) 6; rw [hm]; exact vp_in_nI (by rw [hm] at h30; rcases Nat.lt_or_ge h 6 with q | q; exact q; exact absurd (show nI h = 6 by rw [show h = 6 by omega]; rfl) h30) (by decide)) fun ws hs => ?_
            refine zo_aload_n (i := i_Mo_header) (pc := 70) d_Mo_header_70 rfl rfl ?_
            refine zo_dup (i := i_Mo_header) (pc := 71) d_Mo_header_71 rfl ?_
            refine zo_get (i := i_Mo_header) (pc := 72) 10 29 rfl zok_Mo (Nat.le_of_ble_eq_true rfl) (ztb_of k_887 rfl) d_Mo_header_72 (fun _ _ _ h => h) (hs.get (t := 0) rfl) rfl ?_
            refine zo_iconst (i := i_Mo_header) (pc := 75) (v := 1) d_Mo_header_75 (by decide) ?_
            refine zo_iadd (i := i_Mo_header) (pc := 76) d_Mo_header_76 ?_
            refine zh_put (i := i_Mo_header) (pc := 77) 10 29 rfl zok_Mo (Nat.le_of_ble_eq_true rfl) (ztb_of k_887 rfl) rfl d_Mo_header_77 (fun _ _ _ h => h) (t_Mo_ok 29 (Nat.le_of_ble_eq_true rfl)) rfl rfl hs 0 rfl (Nat.le_of_ble_eq_true rfl) fun ws hs => ?_
            refine zo_aload_n (i := i_Mo_header) (pc := 80) d_Mo_header_80 rfl rfl ?_
            refine zo_get (i := i_Mo_header) (pc := 81) 10 29 rfl zok_Mo (Nat.le_of_ble_eq_true rfl) (ztb_of k_887 rfl) d_Mo_header_81 (fun _ _ _ h => h) (hs.get (t := 0) rfl) rfl ?_
            refine zo_ireturn (i := i_Mo_header) (pc := 84) hq d_Mo_header_84 rfl (Nat.le_of_ble_eq_true rfl) (Nat.le_of_ble_eq_true rfl) ?_
            have hv : zwithin a 0 9 = true ∧ zwithin b 0 3 = true := by
              simp [zwithin]
              exact ⟨⟨Int32.not_lt.mp h2, Int32.not_lt.mp h8⟩, Int32.not_lt.mp h12, h17⟩
            rw [hm] at h30
            have h6 : h < 6 := by
              rcases Nat.lt_or_ge h 6 with q | q
              · exact q
              · exact absurd (show nI h = 6 by rw [show h = 6 by omega]; rfl) h30
            replace hs : zHas ws (moW g B (mup (mup m 0 0) 29 (m 29 + 1)) (mup (mup F 30 (upd (F 30) (m 29).toNatClampNeg a)) 31 (upd (F 31) (m 29).toNatClampNeg b)) ++ R) := hs
            have e := k0 hv h6 ws
            simp only [hm, nI_clamp (show h < 2 ^ 31 by omega), nI_1] at hs
            have e2 := e hs
            rw [← nI_1, ← hm] at e2
            exact e2
          · refine zo_iconst (i := i_Mo_header) (pc := 33) (v := 2) d_Mo_header_33 (by decide) ?_
            refine zo_goto (i := i_Mo_header) (pc := 34) (tgt := 38) d_Mo_header_34 (by decide) ?_
            refine zh_put (i := i_Mo_header) (pc := 38) 10 0 rfl zok_Mo (Nat.le_of_ble_eq_true rfl) (ztb_of k_858 rfl) rfl d_Mo_header_38 (fun _ _ _ h => h) (t_Mo_ok 0 (Nat.le_of_ble_eq_true rfl)) rfl rfl hs 0 rfl (Nat.le_of_ble_eq_true rfl) fun ws hs => ?_
            refine zo_aload_n (i := i_Mo_header) (pc := 41) d_Mo_header_41 rfl rfl ?_
            refine zo_get (i := i_Mo_header) (pc := 42) 10 0 rfl zok_Mo (Nat.le_of_ble_eq_true rfl) (ztb_of k_858 rfl) d_Mo_header_42 (fun _ _ _ h => h) (hs.get (t := 0) rfl) rfl ?_
            refine zo_if_eq (i := i_Mo_header) (pc := 45) (tgt := 50) d_Mo_header_45 (by decide) (fun h45 => False.elim (by first | exact absurd h45 ((by decide)) | exact absurd ((by decide)) h45)) (fun h45 => ?_)
            refine zo_iconst (i := i_Mo_header) (pc := 48) (v := 0) d_Mo_header_48 (by decide) ?_
            refine zo_ireturn (i := i_Mo_header) (pc := 49) hq d_Mo_header_49 rfl (Nat.le_of_ble_eq_true rfl) (Nat.le_of_ble_eq_true rfl) ?_
            have hv : zwithin a 0 9 = true ∧ zwithin b 0 3 = true := by
              simp [zwithin]
              exact ⟨⟨Int32.not_lt.mp h2, Int32.not_lt.mp h8⟩, Int32.not_lt.mp h12, h17⟩
            rw [hm] at h30
            exact k2 hv ((nI_eq (b := 6) (by omega) (by decide)).mp h30) ws hs
        · refine zo_iconst (i := i_Mo_header) (pc := 20) (v := 1) d_Mo_header_20 (by decide) ?_
          refine zo_goto (i := i_Mo_header) (pc := 21) (tgt := 38) d_Mo_header_21 (by decide) ?_
          refine zh_put (i := i_Mo_header) (pc := 38) 10 0 rfl zok_Mo (Nat.le_of_ble_eq_true rfl) (ztb_of k_858 rfl) rfl d_Mo_header_38 (fun _ _ _ h => h) (t_Mo_ok 0 (Nat.le_of_ble_eq_true rfl)) rfl rfl hs 0 rfl (Nat.le_of_ble_eq_true rfl) fun ws hs => ?_
          refine zo_aload_n (i := i_Mo_header) (pc := 41) d_Mo_header_41 rfl rfl ?_
          refine zo_get (i := i_Mo_header) (pc := 42) 10 0 rfl zok_Mo (Nat.le_of_ble_eq_true rfl) (ztb_of k_858 rfl) d_Mo_header_42 (fun _ _ _ h => h) (hs.get (t := 0) rfl) rfl ?_
          refine zo_if_eq (i := i_Mo_header) (pc := 45) (tgt := 50) d_Mo_header_45 (by decide) (fun h45 => False.elim (by first | exact absurd h45 ((by decide)) | exact absurd ((by decide)) h45)) (fun h45 => ?_)
          refine zo_iconst (i := i_Mo_header) (pc := 48) (v := 0) d_Mo_header_48 (by decide) ?_
          refine zo_ireturn (i := i_Mo_header) (pc := 49) hq d_Mo_header_49 rfl (Nat.le_of_ble_eq_true rfl) (Nat.le_of_ble_eq_true rfl) ?_
          exact k1 (fun q => by
            simp [zwithin] at q
            exact absurd q.2.2 h17) ws hs
