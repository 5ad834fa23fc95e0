/-! The model by states: ticks (walks by a program, gen73.py). -/
theorem l_tick {g : zG} {ws : va_W} {post : Option Value → va_W → Prop} {B : Nat → Nat} {q : hT} {t : Int32} {R : va_W} (h : mS g B q t R ws) {n : Int32} {T U : Nat} (hi : hI q T U) (hTT : T + 100 < 1000000) (hU : U + 1100 < 2000000000) (k0 : ∀ c : Nat, n = nI c → 1 ≤ c → c ≤ 100 → ∀ w, mS g B (tickT c q) 0 R w → post none w) (k1 : ¬ (zwithin n 1 100 = true) → ∀ w, mS g B q 1 R w → post none w) : zC g i_Mo_tick [.ref (B 0), .int n] ws post := by
  refine zC.intro (by decide +kernel) rfl (Nat.le_of_ble_eq_true rfl) fun x0 hq => ?_
  obtain ⟨m, F, hr, hs⟩ := h
  by_cases hg : zwithin n 1 100 = true
  · have hg0 := hg
    obtain ⟨cN, rfl, hc1, hc2⟩ := zwithin_nI (a := 1) (b := 100) (by omega) (by omega) hg
    have loop : ∀ (d j : Nat) (q1 : hT) (T1 U1 : Nat) (ws : va_W), j + d = cN → mS g B q1 0 R ws → hI q1 T1 U1 → T1 + d < 1000000 → U1 + 11 * d < 2000000000 → tickT d q1 = tickT cN q → zW x0 g i_Mo_tick 22 [some (.ref (B 0)), some (.int (nI cN)), some (.int (nI j))] [] ws 0 0 := by
      intro d
      induction d with
      | zero =>
        intro j q1 T1 U1 ws hj hS hi1 hT1 hU1 he
        obtain ⟨m, F, hr, hs⟩ := hS
        rw [show tickT 0 q1 = q1 from rfl] at he
        rw [he] at hr
        refine zo_iload_n (i := i_Mo_tick) (pc := 22) d_Mo_tick_22 rfl ?_
        refine zo_iload_n (i := i_Mo_tick) (pc := 23) d_Mo_tick_23 rfl ?_
        refine zo_icmp_ge (i := i_Mo_tick) (pc := 24) (tgt := 103) d_Mo_tick_24 (by decide) (fun h24 => ?_) (fun h24 => False.elim (by first | exact absurd h24 ((nI_le (by omega) (by omega))) | exact absurd ((nI_le (by omega) (by omega))) h24))
        refine zo_return (i := i_Mo_tick) (pc := 103) hq d_Mo_tick_103 rfl (Nat.le_of_ble_eq_true rfl) (Nat.le_of_ble_eq_true rfl) ?_
        exact k0 cN rfl hc1 hc2 ws ⟨_, _, hr, hs⟩
      | succ d ih =>
        intro j q1 T1 U1 ws hj hS hi1 hT1 hU1 he
        obtain ⟨m, F, hr, hs⟩ := hS
        rw [show tickT (d + 1) q1 = tickT d (stepT q1) from rfl] at he
        have hi2 := hI_step hi1 (by omega) (by omega)
        refine zo_iload_n (i := i_Mo_tick) (pc := 22) d_Mo_tick_22 rfl ?_
        refine zo_iload_n (i := i_Mo_tick) (pc := 23) d_Mo_tick_23 rfl ?_
        refine zo_icmp_ge (i := i_Mo_tick) (pc := 24) (tgt := 103) d_Mo_tick_24 (by decide) (fun h24 => False.elim (by first | exact absurd h24 ((nI_ge (by omega) (by omega))) | exact absurd ((nI_ge (by omega) (by omega))) h24)) (fun h24 => ?_)
        refine zo_aload_n (i := i_Mo_tick) (pc := 27) d_Mo_tick_27 rfl rfl ?_
        refine zo_get (i := i_Mo_tick) (pc := 28) 10 0 rfl zok_Mo (Nat.le_of_ble_eq_true rfl) (ztb_of k_858 rfl) d_Mo_tick_28 (fun _ _ _ h => h) (hs.get (t := 0) rfl) rfl ?_
        refine zo_if_ne (i := i_Mo_tick) (pc := 31) (tgt := 103) d_Mo_tick_31 (by decide) (fun h31 => False.elim (by first | exact absurd h31 (hr.1.1) | exact absurd (hr.1.1) h31)) (fun h31 => ?_)
        refine zo_aload_n (i := i_Mo_tick) (pc := 34) d_Mo_tick_34 rfl rfl ?_
        refine zo_dup (i := i_Mo_tick) (pc := 35) d_Mo_tick_35 rfl ?_
        refine zo_get (i := i_Mo_tick) (pc := 36) 10 2 rfl zok_Mo (Nat.le_of_ble_eq_true rfl) (ztb_of k_860 rfl) d_Mo_tick_36 (fun _ _ _ h => h) (hs.get (t := 0) rfl) rfl ?_
        refine zo_iconst (i := i_Mo_tick) (pc := 39) (v := 1) d_Mo_tick_39 (by decide) ?_
        refine zo_iadd (i := i_Mo_tick) (pc := 40) d_Mo_tick_40 ?_
        refine zh_put (i := i_Mo_tick) (pc := 41) 10 2 rfl zok_Mo (Nat.le_of_ble_eq_true rfl) (ztb_of k_860 rfl) rfl d_Mo_tick_41 (fun _ _ _ h => h) (t_Mo_ok 2 (Nat.le_of_ble_eq_true rfl)) rfl rfl hs 0 rfl (Nat.le_of_ble_eq_true rfl) fun ws hs => ?_
        have hr1 : mR (tS q1 (tickS q1.1)) 0 (mup m 2 (m 2 + 1)) F := by
          obtain ⟨b0, b1, b2, b3, b4, b5, b6, b7⟩ := hr.1
          exact hr.setS ⟨b0, b1, (by show m 2 + 1 = q1.1.2.1 + 1; rw [b2]), b3, b4, b5, b6, b7⟩ (fun k hk => mup_ne (by omega))
        obtain ⟨m, F, hr, hs⟩ : mS g B (tS q1 (tickS q1.1)) 0 R ws := ⟨_, _, hr1, hs⟩
        cases hdn : q1.1.2.2.2.2.2.2
        · have hf := hi1
          obtain ⟨cc, a1, a2, a3, a4, a5, a6, a7, a8, a9, ar⟩ := hf
          have ht : (tS q1 (tickS q1.1)).1.2.1 = nI (cc + 1) := by
            show q1.1.2.1 + 1 = _
            rw [a1, nI_1]
          rw [hdn] at a8 a9
          have x2 := uOwT_len (nI (cc + 1)) (q1.2.2.1.filter (fun x => decide (nI (cc + 1) < x.2.2.2.1))) q1.2.1
          have x3 := List.length_filter_le (fun x : zOD => decide (nI (cc + 1) < x.2.2.2.1)) q1.2.2.1
          refine zo_aload_n (i := i_Mo_tick) (pc := 44) d_Mo_tick_44 rfl rfl ?_
          refine zo_get (i := i_Mo_tick) (pc := 45) 10 3 rfl zok_Mo (Nat.le_of_ble_eq_true rfl) (ztb_of k_861 rfl) d_Mo_tick_45 (fun _ _ _ h => h) (hs.get (t := 0) rfl) rfl ?_
          refine zo_if_ne (i := i_Mo_tick) (pc := 48) (tgt := 97) d_Mo_tick_48 (by decide) (fun h48 => False.elim (by first | exact absurd h48 ((by rw [hr.1.2.2.2.1]; show zb q1.1.2.2.2.2.2.2 = 0; rw [hdn]; rfl)) | exact absurd ((by rw [hr.1.2.2.2.1]; show zb q1.1.2.2.2.2.2.2 = 0; rw [hdn]; rfl)) h48)) (fun h48 => ?_)
          refine zo_aload_n (i := i_Mo_tick) (pc := 51) d_Mo_tick_51 rfl rfl ?_
          refine zc_V0 (i := i_Mo_tick) (pc := 52) 10 rfl m_Mo_ageOwn (ztb_of k_964 rfl) (ztb_of k_966 rfl) s_Mo_ageOwn d_Mo_tick_52 (Nat.le_of_ble_eq_true rfl) (Nat.le_of_ble_eq_true rfl) (Nat.le_of_ble_eq_true rfl) (Nat.le_of_ble_eq_true rfl) (hs.get (t := 0) rfl) (l_ageOwn ⟨_, _, hr, hs⟩ (c := cc) (by omega) ht a8 (by show q1.2.1.1 + 5 < _; omega) fun ws hS => ?_)
          obtain ⟨m, F, hr, hs⟩ := hS
          refine zo_aload_n (i := i_Mo_tick) (pc := 55) d_Mo_tick_55 rfl rfl ?_
          refine zc_V0 (i := i_Mo_tick) (pc := 56) 10 rfl m_Mo_ageNeighbours (ztb_of k_972 rfl) (ztb_of k_974 rfl) s_Mo_ageNeighbours d_Mo_tick_56 (Nat.le_of_ble_eq_true rfl) (Nat.le_of_ble_eq_true rfl) (Nat.le_of_ble_eq_true rfl) (Nat.le_of_ble_eq_true rfl) (hs.get (t := 0) rfl) (l_ageNbs ⟨_, _, hr, hs⟩ (c := cc) (by omega) ht a9 (by show (uOwT _ _ _).1 + 6 < _; exact Nat.lt_of_le_of_lt (Nat.add_le_add_right x2 6) (by omega)) fun ws hS => ?_)
          obtain ⟨m, F, hr, hs⟩ := hS
          refine zo_aload_n (i := i_Mo_tick) (pc := 59) d_Mo_tick_59 rfl rfl ?_
          refine zc_V0 (i := i_Mo_tick) (pc := 60) 10 rfl m_Mo_ageEntries (ztb_of k_992 rfl) (ztb_of k_994 rfl) s_Mo_ageEntries d_Mo_tick_60 (Nat.le_of_ble_eq_true rfl) (Nat.le_of_ble_eq_true rfl) (Nat.le_of_ble_eq_true rfl) (Nat.le_of_ble_eq_true rfl) (hs.get (t := 0) rfl) (l_ageEntries ⟨_, _, hr, hs⟩ (e := cc) (by omega) ht fun ws hS => ?_)
          replace hS : mS g B (tA (tP (tR (tS (tU (tN (tU (tO (tS q1 (tickS q1.1)) ((q1.2.2.1.filter (fun x => decide (nI (cc + 1) < x.2.2.2.1))).map (oaA (nI (cc + 1))))) (uOwT (nI (cc + 1)) (q1.2.2.1.filter (fun x => decide (nI (cc + 1) < x.2.2.2.1))) q1.2.1)) ((q1.2.2.2.1.map (ndA (nI (cc + 1)))).filter (fun x => !zgone (nI (cc + 1)) x))) (uNbT (nI (cc + 1)) q1.2.2.2.1 (uOwT (nI (cc + 1)) (q1.2.2.1.filter (fun x => decide (nI (cc + 1) < x.2.2.2.1))) q1.2.1))) (lostS (tickS q1.1) (q1.1.2.2.2.1 + zgwT (nI (cc + 1)) (q1.2.2.2.1.map (ndA (nI (cc + 1))))))) (q1.2.2.2.2.1.filter (fun x => decide (nI (cc + 1) < x.2.1)))) (q1.2.2.2.2.2.1.filter (fun x => decide (nI (cc + 1) < x.2.1)))) (q1.2.2.2.2.2.2.1.filter (fun x => decide (nI (cc + 1) < x.2.1)))) 0 R ws := hS
          obtain ⟨m, F, hr, hs⟩ := hS
          have hm2 : m 2 = nI (cc + 1) := hr.1.2.2.1.trans ht
          have hm5 : m 5 = q1.1.2.2.2.2.2.1 := hr.1.2.2.2.2.2.1
          refine zo_aload_n (i := i_Mo_tick) (pc := 63) d_Mo_tick_63 rfl rfl ?_
          refine zo_aload_n (i := i_Mo_tick) (pc := 64) d_Mo_tick_64 rfl rfl ?_
          refine zo_get (i := i_Mo_tick) (pc := 65) 10 2 rfl zok_Mo (Nat.le_of_ble_eq_true rfl) (ztb_of k_860 rfl) d_Mo_tick_65 (fun _ _ _ h => h) (hs.get (t := 0) rfl) rfl ?_
          refine zo_iconst (i := i_Mo_tick) (pc := 68) (v := 4) d_Mo_tick_68 (by decide) ?_
          refine zo_irem (i := i_Mo_tick) (pc := 69) d_Mo_tick_69 (by decide) ?_
          refine zo_if_ne (i := i_Mo_tick) (pc := 70) (tgt := 90) d_Mo_tick_70 (by decide) (fun h70 => ?_) (fun h70 => ?_)
          · refine zo_aload_n (i := i_Mo_tick) (pc := 90) d_Mo_tick_90 rfl rfl ?_
            refine zo_get (i := i_Mo_tick) (pc := 91) 10 5 rfl zok_Mo (Nat.le_of_ble_eq_true rfl) (ztb_of k_863 rfl) d_Mo_tick_91 (fun _ _ _ h => h) (hs.get (t := 0) rfl) rfl ?_
            refine zh_put (i := i_Mo_tick) (pc := 94) 10 5 rfl zok_Mo (Nat.le_of_ble_eq_true rfl) (ztb_of k_863 rfl) rfl d_Mo_tick_94 (fun _ _ _ h => h) (t_Mo_ok 5 (Nat.le_of_ble_eq_true rfl)) rfl rfl hs 0 rfl (Nat.le_of_ble_eq_true rfl) fun ws hs => ?_
            refine zo_iinc (i := i_Mo_tick) (pc := 97) (v := nI (j + 1)) d_Mo_tick_97 rfl (nI_inc j) (Nat.le_of_ble_eq_true rfl) ?_
            refine zo_goto (i := i_Mo_tick) (pc := 100) (tgt := 22) d_Mo_tick_100 (by decide) ?_
            rw [hm2] at h70
            replace hs : zHas ws (moW g B (mup m 5 (m 5)) F ++ R) := hs
            refine ih (j + 1) (stepT q1) (T1 + 1) (U1 + 11) ws (by omega) ?_ hi2 (by omega) (by omega) he
            obtain ⟨b0, b1, b2, b3, b4, b5, b6, b7⟩ := hr.1
            have hst : stepT q1 = tS (tA (tP (tR (tS (tU (tN (tU (tO (tS q1 (tickS q1.1)) ((q1.2.2.1.filter (fun x => decide (nI (cc + 1) < x.2.2.2.1))).map (oaA (nI (cc + 1))))) (uOwT (nI (cc + 1)) (q1.2.2.1.filter (fun x => decide (nI (cc + 1) < x.2.2.2.1))) q1.2.1)) ((q1.2.2.2.1.map (ndA (nI (cc + 1)))).filter (fun x => !zgone (nI (cc + 1)) x))) (uNbT (nI (cc + 1)) q1.2.2.2.1 (uOwT (nI (cc + 1)) (q1.2.2.1.filter (fun x => decide (nI (cc + 1) < x.2.2.2.1))) q1.2.1))) (lostS (tickS q1.1) (q1.1.2.2.2.1 + zgwT (nI (cc + 1)) (q1.2.2.2.1.map (ndA (nI (cc + 1))))))) (q1.2.2.2.2.1.filter (fun x => decide (nI (cc + 1) < x.2.1)))) (q1.2.2.2.2.2.1.filter (fun x => decide (nI (cc + 1) < x.2.1)))) (q1.2.2.2.2.2.2.1.filter (fun x => decide (nI (cc + 1) < x.2.1)))) ((tA (tP (tR (tS (tU (tN (tU (tO (tS q1 (tickS q1.1)) ((q1.2.2.1.filter (fun x => decide (nI (cc + 1) < x.2.2.2.1))).map (oaA (nI (cc + 1))))) (uOwT (nI (cc + 1)) (q1.2.2.1.filter (fun x => decide (nI (cc + 1) < x.2.2.2.1))) q1.2.1)) ((q1.2.2.2.1.map (ndA (nI (cc + 1)))).filter (fun x => !zgone (nI (cc + 1)) x))) (uNbT (nI (cc + 1)) q1.2.2.2.1 (uOwT (nI (cc + 1)) (q1.2.2.1.filter (fun x => decide (nI (cc + 1) < x.2.2.2.1))) q1.2.1))) (lostS (tickS q1.1) (q1.1.2.2.2.1 + zgwT (nI (cc + 1)) (q1.2.2.2.1.map (ndA (nI (cc + 1))))))) (q1.2.2.2.2.1.filter (fun x => decide (nI (cc + 1) < x.2.1)))) (q1.2.2.2.2.2.1.filter (fun x => decide (nI (cc + 1) < x.2.1)))) (q1.2.2.2.2.2.2.1.filter (fun x => decide (nI (cc + 1) < x.2.1)))).1.1, nI (cc + 1), (tA (tP (tR (tS (tU (tN (tU (tO (tS q1 (tickS q1.1)) ((q1.2.2.1.filter (fun x => decide (nI (cc + 1) < x.2.2.2.1))).map (oaA (nI (cc + 1))))) (uOwT (nI (cc + 1)) (q1.2.2.1.filter (fun x => decide (nI (cc + 1) < x.2.2.2.1))) q1.2.1)) ((q1.2.2.2.1.map (ndA (nI (cc + 1)))).filter (fun x => !zgone (nI (cc + 1)) x))) (uNbT (nI (cc + 1)) q1.2.2.2.1 (uOwT (nI (cc + 1)) (q1.2.2.1.filter (fun x => decide (nI (cc + 1) < x.2.2.2.1))) q1.2.1))) (lostS (tickS q1.1) (q1.1.2.2.2.1 + zgwT (nI (cc + 1)) (q1.2.2.2.1.map (ndA (nI (cc + 1))))))) (q1.2.2.2.2.1.filter (fun x => decide (nI (cc + 1) < x.2.1)))) (q1.2.2.2.2.2.1.filter (fun x => decide (nI (cc + 1) < x.2.1)))) (q1.2.2.2.2.2.2.1.filter (fun x => decide (nI (cc + 1) < x.2.1)))).1.2.2.1, (tA (tP (tR (tS (tU (tN (tU (tO (tS q1 (tickS q1.1)) ((q1.2.2.1.filter (fun x => decide (nI (cc + 1) < x.2.2.2.1))).map (oaA (nI (cc + 1))))) (uOwT (nI (cc + 1)) (q1.2.2.1.filter (fun x => decide (nI (cc + 1) < x.2.2.2.1))) q1.2.1)) ((q1.2.2.2.1.map (ndA (nI (cc + 1)))).filter (fun x => !zgone (nI (cc + 1)) x))) (uNbT (nI (cc + 1)) q1.2.2.2.1 (uOwT (nI (cc + 1)) (q1.2.2.1.filter (fun x => decide (nI (cc + 1) < x.2.2.2.1))) q1.2.1))) (lostS (tickS q1.1) (q1.1.2.2.2.1 + zgwT (nI (cc + 1)) (q1.2.2.2.1.map (ndA (nI (cc + 1))))))) (q1.2.2.2.2.1.filter (fun x => decide (nI (cc + 1) < x.2.1)))) (q1.2.2.2.2.2.1.filter (fun x => decide (nI (cc + 1) < x.2.1)))) (q1.2.2.2.2.2.2.1.filter (fun x => decide (nI (cc + 1) < x.2.1)))).1.2.2.2.1, (tA (tP (tR (tS (tU (tN (tU (tO (tS q1 (tickS q1.1)) ((q1.2.2.1.filter (fun x => decide (nI (cc + 1) < x.2.2.2.1))).map (oaA (nI (cc + 1))))) (uOwT (nI (cc + 1)) (q1.2.2.1.filter (fun x => decide (nI (cc + 1) < x.2.2.2.1))) q1.2.1)) ((q1.2.2.2.1.map (ndA (nI (cc + 1)))).filter (fun x => !zgone (nI (cc + 1)) x))) (uNbT (nI (cc + 1)) q1.2.2.2.1 (uOwT (nI (cc + 1)) (q1.2.2.1.filter (fun x => decide (nI (cc + 1) < x.2.2.2.1))) q1.2.1))) (lostS (tickS q1.1) (q1.1.2.2.2.1 + zgwT (nI (cc + 1)) (q1.2.2.2.1.map (ndA (nI (cc + 1))))))) (q1.2.2.2.2.1.filter (fun x => decide (nI (cc + 1) < x.2.1)))) (q1.2.2.2.2.2.1.filter (fun x => decide (nI (cc + 1) < x.2.1)))) (q1.2.2.2.2.2.2.1.filter (fun x => decide (nI (cc + 1) < x.2.1)))).1.2.2.2.2.1, q1.1.2.2.2.2.2.1, (tA (tP (tR (tS (tU (tN (tU (tO (tS q1 (tickS q1.1)) ((q1.2.2.1.filter (fun x => decide (nI (cc + 1) < x.2.2.2.1))).map (oaA (nI (cc + 1))))) (uOwT (nI (cc + 1)) (q1.2.2.1.filter (fun x => decide (nI (cc + 1) < x.2.2.2.1))) q1.2.1)) ((q1.2.2.2.1.map (ndA (nI (cc + 1)))).filter (fun x => !zgone (nI (cc + 1)) x))) (uNbT (nI (cc + 1)) q1.2.2.2.1 (uOwT (nI (cc + 1)) (q1.2.2.1.filter (fun x => decide (nI (cc + 1) < x.2.2.2.1))) q1.2.1))) (lostS (tickS q1.1) (q1.1.2.2.2.1 + zgwT (nI (cc + 1)) (q1.2.2.2.1.map (ndA (nI (cc + 1))))))) (q1.2.2.2.2.1.filter (fun x => decide (nI (cc + 1) < x.2.1)))) (q1.2.2.2.2.2.1.filter (fun x => decide (nI (cc + 1) < x.2.1)))) (q1.2.2.2.2.2.2.1.filter (fun x => decide (nI (cc + 1) < x.2.1)))).1.2.2.2.2.2.2) := by
              unfold stepT
              rw [if_neg (by rw [hdn]; decide)]
              unfold dueT dueS
              rw [ht, if_neg (fun hh => h70 hh.1)]
              rfl
            rw [hst]
            refine ⟨_, _, hr.setS (m' := mup m 5 (m 5)) ⟨b0, b1, hm2, b3, b4, ?_, b6, b7⟩ (fun k hk => mup_ne (by omega)), hs⟩
            show m 5 = q1.1.2.2.2.2.2.1
            rw [hm5]
          · refine zo_aload_n (i := i_Mo_tick) (pc := 73) d_Mo_tick_73 rfl rfl ?_
            refine zo_get (i := i_Mo_tick) (pc := 74) 10 5 rfl zok_Mo (Nat.le_of_ble_eq_true rfl) (ztb_of k_863 rfl) d_Mo_tick_74 (fun _ _ _ h => h) (hs.get (t := 0) rfl) rfl ?_
            refine zo_iconst (i := i_Mo_tick) (pc := 77) (v := 3) d_Mo_tick_77 (by decide) ?_
            refine zo_icmp_ge (i := i_Mo_tick) (pc := 78) (tgt := 90) d_Mo_tick_78 (by decide) (fun h78 => ?_) (fun h78 => ?_)
            · refine zo_aload_n (i := i_Mo_tick) (pc := 90) d_Mo_tick_90 rfl rfl ?_
              refine zo_get (i := i_Mo_tick) (pc := 91) 10 5 rfl zok_Mo (Nat.le_of_ble_eq_true rfl) (ztb_of k_863 rfl) d_Mo_tick_91 (fun _ _ _ h => h) (hs.get (t := 0) rfl) rfl ?_
              refine zh_put (i := i_Mo_tick) (pc := 94) 10 5 rfl zok_Mo (Nat.le_of_ble_eq_true rfl) (ztb_of k_863 rfl) rfl d_Mo_tick_94 (fun _ _ _ h => h) (t_Mo_ok 5 (Nat.le_of_ble_eq_true rfl)) rfl rfl hs 0 rfl (Nat.le_of_ble_eq_true rfl) fun ws hs => ?_
              refine zo_iinc (i := i_Mo_tick) (pc := 97) (v := nI (j + 1)) d_Mo_tick_97 rfl (nI_inc j) (Nat.le_of_ble_eq_true rfl) ?_
              refine zo_goto (i := i_Mo_tick) (pc := 100) (tgt := 22) d_Mo_tick_100 (by decide) ?_
              rw [hm2] at h70
              rw [hm5] at h78
              replace hs : zHas ws (moW g B (mup m 5 (m 5)) F ++ R) := hs
              refine ih (j + 1) (stepT q1) (T1 + 1) (U1 + 11) ws (by omega) ?_ hi2 (by omega) (by omega) he
              obtain ⟨b0, b1, b2, b3, b4, b5, b6, b7⟩ := hr.1
              have hst : stepT q1 = tS (tA (tP (tR (tS (tU (tN (tU (tO (tS q1 (tickS q1.1)) ((q1.2.2.1.filter (fun x => decide (nI (cc + 1) < x.2.2.2.1))).map (oaA (nI (cc + 1))))) (uOwT (nI (cc + 1)) (q1.2.2.1.filter (fun x => decide (nI (cc + 1) < x.2.2.2.1))) q1.2.1)) ((q1.2.2.2.1.map (ndA (nI (cc + 1)))).filter (fun x => !zgone (nI (cc + 1)) x))) (uNbT (nI (cc + 1)) q1.2.2.2.1 (uOwT (nI (cc + 1)) (q1.2.2.1.filter (fun x => decide (nI (cc + 1) < x.2.2.2.1))) q1.2.1))) (lostS (tickS q1.1) (q1.1.2.2.2.1 + zgwT (nI (cc + 1)) (q1.2.2.2.1.map (ndA (nI (cc + 1))))))) (q1.2.2.2.2.1.filter (fun x => decide (nI (cc + 1) < x.2.1)))) (q1.2.2.2.2.2.1.filter (fun x => decide (nI (cc + 1) < x.2.1)))) (q1.2.2.2.2.2.2.1.filter (fun x => decide (nI (cc + 1) < x.2.1)))) ((tA (tP (tR (tS (tU (tN (tU (tO (tS q1 (tickS q1.1)) ((q1.2.2.1.filter (fun x => decide (nI (cc + 1) < x.2.2.2.1))).map (oaA (nI (cc + 1))))) (uOwT (nI (cc + 1)) (q1.2.2.1.filter (fun x => decide (nI (cc + 1) < x.2.2.2.1))) q1.2.1)) ((q1.2.2.2.1.map (ndA (nI (cc + 1)))).filter (fun x => !zgone (nI (cc + 1)) x))) (uNbT (nI (cc + 1)) q1.2.2.2.1 (uOwT (nI (cc + 1)) (q1.2.2.1.filter (fun x => decide (nI (cc + 1) < x.2.2.2.1))) q1.2.1))) (lostS (tickS q1.1) (q1.1.2.2.2.1 + zgwT (nI (cc + 1)) (q1.2.2.2.1.map (ndA (nI (cc + 1))))))) (q1.2.2.2.2.1.filter (fun x => decide (nI (cc + 1) < x.2.1)))) (q1.2.2.2.2.2.1.filter (fun x => decide (nI (cc + 1) < x.2.1)))) (q1.2.2.2.2.2.2.1.filter (fun x => decide (nI (cc + 1) < x.2.1)))).1.1, nI (cc + 1), (tA (tP (tR (tS (tU (tN (tU (tO (tS q1 (tickS q1.1)) ((q1.2.2.1.filter (fun x => decide (nI (cc + 1) < x.2.2.2.1))).map (oaA (nI (cc + 1))))) (uOwT (nI (cc + 1)) (q1.2.2.1.filter (fun x => decide (nI (cc + 1) < x.2.2.2.1))) q1.2.1)) ((q1.2.2.2.1.map (ndA (nI (cc + 1)))).filter (fun x => !zgone (nI (cc + 1)) x))) (uNbT (nI (cc + 1)) q1.2.2.2.1 (uOwT (nI (cc + 1)) (q1.2.2.1.filter (fun x => decide (nI (cc + 1) < x.2.2.2.1))) q1.2.1))) (lostS (tickS q1.1) (q1.1.2.2.2.1 + zgwT (nI (cc + 1)) (q1.2.2.2.1.map (ndA (nI (cc + 1))))))) (q1.2.2.2.2.1.filter (fun x => decide (nI (cc + 1) < x.2.1)))) (q1.2.2.2.2.2.1.filter (fun x => decide (nI (cc + 1) < x.2.1)))) (q1.2.2.2.2.2.2.1.filter (fun x => decide (nI (cc + 1) < x.2.1)))).1.2.2.1, (tA (tP (tR (tS (tU (tN (tU (tO (tS q1 (tickS q1.1)) ((q1.2.2.1.filter (fun x => decide (nI (cc + 1) < x.2.2.2.1))).map (oaA (nI (cc + 1))))) (uOwT (nI (cc + 1)) (q1.2.2.1.filter (fun x => decide (nI (cc + 1) < x.2.2.2.1))) q1.2.1)) ((q1.2.2.2.1.map (ndA (nI (cc + 1)))).filter (fun x => !zgone (nI (cc + 1)) x))) (uNbT (nI (cc + 1)) q1.2.2.2.1 (uOwT (nI (cc + 1)) (q1.2.2.1.filter (fun x => decide (nI (cc + 1) < x.2.2.2.1))) q1.2.1))) (lostS (tickS q1.1) (q1.1.2.2.2.1 + zgwT (nI (cc + 1)) (q1.2.2.2.1.map (ndA (nI (cc + 1))))))) (q1.2.2.2.2.1.filter (fun x => decide (nI (cc + 1) < x.2.1)))) (q1.2.2.2.2.2.1.filter (fun x => decide (nI (cc + 1) < x.2.1)))) (q1.2.2.2.2.2.2.1.filter (fun x => decide (nI (cc + 1) < x.2.1)))).1.2.2.2.1, (tA (tP (tR (tS (tU (tN (tU (tO (tS q1 (tickS q1.1)) ((q1.2.2.1.filter (fun x => decide (nI (cc + 1) < x.2.2.2.1))).map (oaA (nI (cc + 1))))) (uOwT (nI (cc + 1)) (q1.2.2.1.filter (fun x => decide (nI (cc + 1) < x.2.2.2.1))) q1.2.1)) ((q1.2.2.2.1.map (ndA (nI (cc + 1)))).filter (fun x => !zgone (nI (cc + 1)) x))) (uNbT (nI (cc + 1)) q1.2.2.2.1 (uOwT (nI (cc + 1)) (q1.2.2.1.filter (fun x => decide (nI (cc + 1) < x.2.2.2.1))) q1.2.1))) (lostS (tickS q1.1) (q1.1.2.2.2.1 + zgwT (nI (cc + 1)) (q1.2.2.2.1.map (ndA (nI (cc + 1))))))) (q1.2.2.2.2.1.filter (fun x => decide (nI (cc + 1) < x.2.1)))) (q1.2.2.2.2.2.1.filter (fun x => decide (nI (cc + 1) < x.2.1)))) (q1.2.2.2.2.2.2.1.filter (fun x => decide (nI (cc + 1) < x.2.1)))).1.2.2.2.2.1, q1.1.2.2.2.2.2.1, (tA (tP (tR (tS (tU (tN (tU (tO (tS q1 (tickS q1.1)) ((q1.2.2.1.filter (fun x => decide (nI (cc + 1) < x.2.2.2.1))).map (oaA (nI (cc + 1))))) (uOwT (nI (cc + 1)) (q1.2.2.1.filter (fun x => decide (nI (cc + 1) < x.2.2.2.1))) q1.2.1)) ((q1.2.2.2.1.map (ndA (nI (cc + 1)))).filter (fun x => !zgone (nI (cc + 1)) x))) (uNbT (nI (cc + 1)) q1.2.2.2.1 (uOwT (nI (cc + 1)) (q1.2.2.1.filter (fun x => decide (nI (cc + 1) < x.2.2.2.1))) q1.2.1))) (lostS (tickS q1.1) (q1.1.2.2.2.1 + zgwT (nI (cc + 1)) (q1.2.2.2.1.map (ndA (nI (cc + 1))))))) (q1.2.2.2.2.1.filter (fun x => decide (nI (cc + 1) < x.2.1)))) (q1.2.2.2.2.2.1.filter (fun x => decide (nI (cc + 1) < x.2.1)))) (q1.2.2.2.2.2.2.1.filter (fun x => decide (nI (cc + 1) < x.2.1)))).1.2.2.2.2.2.2) := by
                unfold stepT
                rw [if_neg (by rw [hdn]; decide)]
                unfold dueT dueS
                rw [ht, if_neg (fun hh => hh.2 h78)]
                rfl
              rw [hst]
              refine ⟨_, _, hr.setS (m' := mup m 5 (m 5)) ⟨b0, b1, hm2, b3, b4, ?_, b6, b7⟩ (fun k hk => mup_ne (by omega)), hs⟩
              show m 5 = q1.1.2.2.2.2.2.1
              rw [hm5]
            · refine zo_aload_n (i := i_Mo_tick) (pc := 81) d_Mo_tick_81 rfl rfl ?_
              refine zo_get (i := i_Mo_tick) (pc := 82) 10 5 rfl zok_Mo (Nat.le_of_ble_eq_true rfl) (ztb_of k_863 rfl) d_Mo_tick_82 (fun _ _ _ h => h) (hs.get (t := 0) rfl) rfl ?_
              refine zo_iconst (i := i_Mo_tick) (pc := 85) (v := 1) d_Mo_tick_85 (by decide) ?_
              refine zo_iadd (i := i_Mo_tick) (pc := 86) d_Mo_tick_86 ?_
              refine zo_goto (i := i_Mo_tick) (pc := 87) (tgt := 94) d_Mo_tick_87 (by decide) ?_
              refine zh_put (i := i_Mo_tick) (pc := 94) 10 5 rfl zok_Mo (Nat.le_of_ble_eq_true rfl) (ztb_of k_863 rfl) rfl d_Mo_tick_94 (fun _ _ _ h => h) (t_Mo_ok 5 (Nat.le_of_ble_eq_true rfl)) rfl rfl hs 0 rfl (Nat.le_of_ble_eq_true rfl) fun ws hs => ?_
              refine zo_iinc (i := i_Mo_tick) (pc := 97) (v := nI (j + 1)) d_Mo_tick_97 rfl (nI_inc j) (Nat.le_of_ble_eq_true rfl) ?_
              refine zo_goto (i := i_Mo_tick) (pc := 100) (tgt := 22) d_Mo_tick_100 (by decide) ?_
              rw [hm2] at h70
              rw [hm5] at h78
              replace hs : zHas ws (moW g B (mup m 5 (m 5 + 1)) F ++ R) := hs
              refine ih (j + 1) (stepT q1) (T1 + 1) (U1 + 11) ws (by omega) ?_ hi2 (by omega) (by omega) he
              obtain ⟨b0, b1, b2, b3, b4, b5, b6, b7⟩ := hr.1
              have hst : stepT q1 = tS (tA (tP (tR (tS (tU (tN (tU (tO (tS q1 (tickS q1.1)) ((q1.2.2.1.filter (fun x => decide (nI (cc + 1) < x.2.2.2.1))).map (oaA (nI (cc + 1))))) (uOwT (nI (cc + 1)) (q1.2.2.1.filter (fun x => decide (nI (cc + 1) < x.2.2.2.1))) q1.2.1)) ((q1.2.2.2.1.map (ndA (nI (cc + 1)))).filter (fun x => !zgone (nI (cc + 1)) x))) (uNbT (nI (cc + 1)) q1.2.2.2.1 (uOwT (nI (cc + 1)) (q1.2.2.1.filter (fun x => decide (nI (cc + 1) < x.2.2.2.1))) q1.2.1))) (lostS (tickS q1.1) (q1.1.2.2.2.1 + zgwT (nI (cc + 1)) (q1.2.2.2.1.map (ndA (nI (cc + 1))))))) (q1.2.2.2.2.1.filter (fun x => decide (nI (cc + 1) < x.2.1)))) (q1.2.2.2.2.2.1.filter (fun x => decide (nI (cc + 1) < x.2.1)))) (q1.2.2.2.2.2.2.1.filter (fun x => decide (nI (cc + 1) < x.2.1)))) ((tA (tP (tR (tS (tU (tN (tU (tO (tS q1 (tickS q1.1)) ((q1.2.2.1.filter (fun x => decide (nI (cc + 1) < x.2.2.2.1))).map (oaA (nI (cc + 1))))) (uOwT (nI (cc + 1)) (q1.2.2.1.filter (fun x => decide (nI (cc + 1) < x.2.2.2.1))) q1.2.1)) ((q1.2.2.2.1.map (ndA (nI (cc + 1)))).filter (fun x => !zgone (nI (cc + 1)) x))) (uNbT (nI (cc + 1)) q1.2.2.2.1 (uOwT (nI (cc + 1)) (q1.2.2.1.filter (fun x => decide (nI (cc + 1) < x.2.2.2.1))) q1.2.1))) (lostS (tickS q1.1) (q1.1.2.2.2.1 + zgwT (nI (cc + 1)) (q1.2.2.2.1.map (ndA (nI (cc + 1))))))) (q1.2.2.2.2.1.filter (fun x => decide (nI (cc + 1) < x.2.1)))) (q1.2.2.2.2.2.1.filter (fun x => decide (nI (cc + 1) < x.2.1)))) (q1.2.2.2.2.2.2.1.filter (fun x => decide (nI (cc + 1) < x.2.1)))).1.1, nI (cc + 1), (tA (tP (tR (tS (tU (tN (tU (tO (tS q1 (tickS q1.1)) ((q1.2.2.1.filter (fun x => decide (nI (cc + 1) < x.2.2.2.1))).map (oaA (nI (cc + 1))))) (uOwT (nI (cc + 1)) (q1.2.2.1.filter (fun x => decide (nI (cc + 1) < x.2.2.2.1))) q1.2.1)) ((q1.2.2.2.1.map (ndA (nI (cc + 1)))).filter (fun x => !zgone (nI (cc + 1)) x))) (uNbT (nI (cc + 1)) q1.2.2.2.1 (uOwT (nI (cc + 1)) (q1.2.2.1.filter (fun x => decide (nI (cc + 1) < x.2.2.2.1))) q1.2.1))) (lostS (tickS q1.1) (q1.1.2.2.2.1 + zgwT (nI (cc + 1)) (q1.2.2.2.1.map (ndA (nI (cc + 1))))))) (q1.2.2.2.2.1.filter (fun x => decide (nI (cc + 1) < x.2.1)))) (q1.2.2.2.2.2.1.filter (fun x => decide (nI (cc + 1) < x.2.1)))) (q1.2.2.2.2.2.2.1.filter (fun x => decide (nI (cc + 1) < x.2.1)))).1.2.2.1, (tA (tP (tR (tS (tU (tN (tU (tO (tS q1 (tickS q1.1)) ((q1.2.2.1.filter (fun x => decide (nI (cc + 1) < x.2.2.2.1))).map (oaA (nI (cc + 1))))) (uOwT (nI (cc + 1)) (q1.2.2.1.filter (fun x => decide (nI (cc + 1) < x.2.2.2.1))) q1.2.1)) ((q1.2.2.2.1.map (ndA (nI (cc + 1)))).filter (fun x => !zgone (nI (cc + 1)) x))) (uNbT (nI (cc + 1)) q1.2.2.2.1 (uOwT (nI (cc + 1)) (q1.2.2.1.filter (fun x => decide (nI (cc + 1) < x.2.2.2.1))) q1.2.1))) (lostS (tickS q1.1) (q1.1.2.2.2.1 + zgwT (nI (cc + 1)) (q1.2.2.2.1.map (ndA (nI (cc + 1))))))) (q1.2.2.2.2.1.filter (fun x => decide (nI (cc + 1) < x.2.1)))) (q1.2.2.2.2.2.1.filter (fun x => decide (nI (cc + 1) < x.2.1)))) (q1.2.2.2.2.2.2.1.filter (fun x => decide (nI (cc + 1) < x.2.1)))).1.2.2.2.1, (tA (tP (tR (tS (tU (tN (tU (tO (tS q1 (tickS q1.1)) ((q1.2.2.1.filter (fun x => decide (nI (cc + 1) < x.2.2.2.1))).map (oaA (nI (cc + 1))))) (uOwT (nI (cc + 1)) (q1.2.2.1.filter (fun x => decide (nI (cc + 1) < x.2.2.2.1))) q1.2.1)) ((q1.2.2.2.1.map (ndA (nI (cc + 1)))).filter (fun x => !zgone (nI (cc + 1)) x))) (uNbT (nI (cc + 1)) q1.2.2.2.1 (uOwT (nI (cc + 1)) (q1.2.2.1.filter (fun x => decide (nI (cc + 1) < x.2.2.2.1))) q1.2.1))) (lostS (tickS q1.1) (q1.1.2.2.2.1 + zgwT (nI (cc + 1)) (q1.2.2.2.1.map (ndA (nI (cc + 1))))))) (q1.2.2.2.2.1.filter (fun x => decide (nI (cc + 1) < x.2.1)))) (q1.2.2.2.2.2.1.filter (fun x => decide (nI (cc + 1) < x.2.1)))) (q1.2.2.2.2.2.2.1.filter (fun x => decide (nI (cc + 1) < x.2.1)))).1.2.2.2.2.1, q1.1.2.2.2.2.2.1 + 1, (tA (tP (tR (tS (tU (tN (tU (tO (tS q1 (tickS q1.1)) ((q1.2.2.1.filter (fun x => decide (nI (cc + 1) < x.2.2.2.1))).map (oaA (nI (cc + 1))))) (uOwT (nI (cc + 1)) (q1.2.2.1.filter (fun x => decide (nI (cc + 1) < x.2.2.2.1))) q1.2.1)) ((q1.2.2.2.1.map (ndA (nI (cc + 1)))).filter (fun x => !zgone (nI (cc + 1)) x))) (uNbT (nI (cc + 1)) q1.2.2.2.1 (uOwT (nI (cc + 1)) (q1.2.2.1.filter (fun x => decide (nI (cc + 1) < x.2.2.2.1))) q1.2.1))) (lostS (tickS q1.1) (q1.1.2.2.2.1 + zgwT (nI (cc + 1)) (q1.2.2.2.1.map (ndA (nI (cc + 1))))))) (q1.2.2.2.2.1.filter (fun x => decide (nI (cc + 1) < x.2.1)))) (q1.2.2.2.2.2.1.filter (fun x => decide (nI (cc + 1) < x.2.1)))) (q1.2.2.2.2.2.2.1.filter (fun x => decide (nI (cc + 1) < x.2.1)))).1.2.2.2.2.2.2) := by
                unfold stepT
                rw [if_neg (by rw [hdn]; decide)]
                unfold dueT dueS
                rw [ht, if_pos ⟨h70, h78⟩]
                rfl
              rw [hst]
              refine ⟨_, _, hr.setS (m' := mup m 5 (m 5 + 1)) ⟨b0, b1, hm2, b3, b4, ?_, b6, b7⟩ (fun k hk => mup_ne (by omega)), hs⟩
              show m 5 + 1 = q1.1.2.2.2.2.2.1 + 1
              rw [hm5]
        · refine zo_aload_n (i := i_Mo_tick) (pc := 44) d_Mo_tick_44 rfl rfl ?_
          refine zo_get (i := i_Mo_tick) (pc := 45) 10 3 rfl zok_Mo (Nat.le_of_ble_eq_true rfl) (ztb_of k_861 rfl) d_Mo_tick_45 (fun _ _ _ h => h) (hs.get (t := 0) rfl) rfl ?_
          refine zo_if_ne (i := i_Mo_tick) (pc := 48) (tgt := 97) d_Mo_tick_48 (by decide) (fun h48 => ?_) (fun h48 => False.elim (by first | exact absurd h48 ((by rw [hr.1.2.2.2.1]; show ¬ zb q1.1.2.2.2.2.2.2 = 0; rw [hdn]; decide)) | exact absurd ((by rw [hr.1.2.2.2.1]; show ¬ zb q1.1.2.2.2.2.2.2 = 0; rw [hdn]; decide)) h48))
          refine zo_iinc (i := i_Mo_tick) (pc := 97) (v := nI (j + 1)) d_Mo_tick_97 rfl (nI_inc j) (Nat.le_of_ble_eq_true rfl) ?_
          refine zo_goto (i := i_Mo_tick) (pc := 100) (tgt := 22) d_Mo_tick_100 (by decide) ?_
          refine ih (j + 1) (stepT q1) (T1 + 1) (U1 + 11) ws (by omega) ?_ hi2 (by omega) (by omega) he
          unfold stepT
          rw [if_pos hdn]
          exact ⟨_, _, hr, hs⟩
    refine zo_aload_n (i := i_Mo_tick) (pc := 0) d_Mo_tick_0 rfl rfl ?_
    refine zo_iload_n (i := i_Mo_tick) (pc := 1) d_Mo_tick_1 rfl ?_
    refine zo_iconst (i := i_Mo_tick) (pc := 2) (v := 1) d_Mo_tick_2 (by decide) ?_
    refine zo_icmp_lt (i := i_Mo_tick) (pc := 3) (tgt := 12) d_Mo_tick_3 (by decide) (fun h3 => False.elim (by first | exact absurd h3 ((by simp only [zwithin, Bool.and_eq_true, Bool.not_eq_true', decide_eq_false_iff_not] at hg0; exact hg0.1)) | exact absurd ((by simp only [zwithin, Bool.and_eq_true, Bool.not_eq_true', decide_eq_false_iff_not] at hg0; exact hg0.1)) h3)) (fun h3 => ?_)
    refine zo_iload_n (i := i_Mo_tick) (pc := 6) d_Mo_tick_6 rfl ?_
    refine zo_bipush (i := i_Mo_tick) (pc := 7) (v := 100) d_Mo_tick_7 (by decide) ?_
    refine zo_icmp_le (i := i_Mo_tick) (pc := 9) (tgt := 16) d_Mo_tick_9 (by decide) (fun h9 => ?_) (fun h9 => False.elim (by first | exact absurd h9 ((by simp only [zwithin, Bool.and_eq_true, Bool.not_eq_true', decide_eq_false_iff_not] at hg0; exact Int32.not_lt.mp hg0.2)) | exact absurd ((by simp only [zwithin, Bool.and_eq_true, Bool.not_eq_true', decide_eq_false_iff_not] at hg0; exact Int32.not_lt.mp hg0.2)) h9))
    refine zo_iconst (i := i_Mo_tick) (pc := 16) (v := 0) d_Mo_tick_16 (by decide) ?_
    refine zh_put (i := i_Mo_tick) (pc := 17) 10 0 rfl zok_Mo (Nat.le_of_ble_eq_true rfl) (ztb_of k_858 rfl) rfl d_Mo_tick_17 (fun _ _ _ h => h) (t_Mo_ok 0 (Nat.le_of_ble_eq_true rfl)) rfl rfl hs 0 rfl (Nat.le_of_ble_eq_true rfl) fun ws hs => ?_
    refine zo_iconst (i := i_Mo_tick) (pc := 20) (v := 0) d_Mo_tick_20 (by decide) ?_
    rw [← nI_0]
    refine zo_istore_n (i := i_Mo_tick) (pc := 21) d_Mo_tick_21 (Nat.le_of_ble_eq_true rfl) ?_
    replace hs : zHas ws (moW g B (mup m 0 0) F ++ R) := hs
    exact loop cN 0 q T U ws (by omega) ⟨_, _, hr.thrown, hs⟩ hi (by omega) (by omega) rfl
  · refine zo_aload_n (i := i_Mo_tick) (pc := 0) d_Mo_tick_0 rfl rfl ?_
    refine zo_iload_n (i := i_Mo_tick) (pc := 1) d_Mo_tick_1 rfl ?_
    refine zo_iconst (i := i_Mo_tick) (pc := 2) (v := 1) d_Mo_tick_2 (by decide) ?_
    refine zo_icmp_lt (i := i_Mo_tick) (pc := 3) (tgt := 12) d_Mo_tick_3 (by decide) (fun h3 => ?_) (fun h3 => ?_)
    · refine zo_iconst (i := i_Mo_tick) (pc := 12) (v := 1) d_Mo_tick_12 (by decide) ?_
      refine zo_goto (i := i_Mo_tick) (pc := 13) (tgt := 17) d_Mo_tick_13 (by decide) ?_
      refine zh_put (i := i_Mo_tick) (pc := 17) 10 0 rfl zok_Mo (Nat.le_of_ble_eq_true rfl) (ztb_of k_858 rfl) rfl d_Mo_tick_17 (fun _ _ _ h => h) (t_Mo_ok 0 (Nat.le_of_ble_eq_true rfl)) rfl rfl hs 0 rfl (Nat.le_of_ble_eq_true rfl) fun ws hs => ?_
      refine zo_iconst (i := i_Mo_tick) (pc := 20) (v := 0) d_Mo_tick_20 (by decide) ?_
      refine zo_istore_n (i := i_Mo_tick) (pc := 21) d_Mo_tick_21 (Nat.le_of_ble_eq_true rfl) ?_
      refine zo_iload_n (i := i_Mo_tick) (pc := 22) d_Mo_tick_22 rfl ?_
      refine zo_iload_n (i := i_Mo_tick) (pc := 23) d_Mo_tick_23 rfl ?_
      refine zo_icmp_ge (i := i_Mo_tick) (pc := 24) (tgt := 103) d_Mo_tick_24 (by decide) (fun h24 => ?_) (fun h24 => False.elim (by first | exact absurd h24 ((by have := h3; rw [Int32.lt_iff_toInt_lt] at this; rw [Int32.le_iff_toInt_le]; exact Int.lt_add_one_iff.mp this)) | exact absurd ((by have := h3; rw [Int32.lt_iff_toInt_lt] at this; rw [Int32.le_iff_toInt_le]; exact Int.lt_add_one_iff.mp this)) h24))
      refine zo_return (i := i_Mo_tick) (pc := 103) hq d_Mo_tick_103 rfl (Nat.le_of_ble_eq_true rfl) (Nat.le_of_ble_eq_true rfl) ?_
      exact k1 hg ws ⟨_, _, hr.thrown, hs⟩
    · refine zo_iload_n (i := i_Mo_tick) (pc := 6) d_Mo_tick_6 rfl ?_
      refine zo_bipush (i := i_Mo_tick) (pc := 7) (v := 100) d_Mo_tick_7 (by decide) ?_
      refine zo_icmp_le (i := i_Mo_tick) (pc := 9) (tgt := 16) d_Mo_tick_9 (by decide) (fun h9 => False.elim (by first | exact absurd h9 ((fun hh => hg (by simp only [zwithin, Bool.and_eq_true, Bool.not_eq_true', decide_eq_false_iff_not]; exact ⟨h3, Int32.not_lt.mpr hh⟩))) | exact absurd ((fun hh => hg (by simp only [zwithin, Bool.and_eq_true, Bool.not_eq_true', decide_eq_false_iff_not]; exact ⟨h3, Int32.not_lt.mpr hh⟩))) h9)) (fun h9 => ?_)
      refine zo_iconst (i := i_Mo_tick) (pc := 12) (v := 1) d_Mo_tick_12 (by decide) ?_
      refine zo_goto (i := i_Mo_tick) (pc := 13) (tgt := 17) d_Mo_tick_13 (by decide) ?_
      refine zh_put (i := i_Mo_tick) (pc := 17) 10 0 rfl zok_Mo (Nat.le_of_ble_eq_true rfl) (ztb_of k_858 rfl) rfl d_Mo_tick_17 (fun _ _ _ h => h) (t_Mo_ok 0 (Nat.le_of_ble_eq_true rfl)) rfl rfl hs 0 rfl (Nat.le_of_ble_eq_true rfl) fun ws hs => ?_
      refine zo_iconst (i := i_Mo_tick) (pc := 20) (v := 0) d_Mo_tick_20 (by decide) ?_
      refine zo_istore_n (i := i_Mo_tick) (pc := 21) d_Mo_tick_21 (Nat.le_of_ble_eq_true rfl) ?_
      refine zo_iload_n (i := i_Mo_tick) (pc := 22) d_Mo_tick_22 rfl ?_
      refine zo_iload_n (i := i_Mo_tick) (pc := 23) d_Mo_tick_23 rfl ?_
      refine zo_icmp_ge (i := i_Mo_tick) (pc := 24) (tgt := 103) d_Mo_tick_24 (by decide) (fun h24 => False.elim (by first | exact absurd h24 ((fun hh => absurd hh (Int32.not_le.mpr (Int32.lt_of_lt_of_le (by decide) (Int32.not_lt.mp h3))))) | exact absurd ((fun hh => absurd hh (Int32.not_le.mpr (Int32.lt_of_lt_of_le (by decide) (Int32.not_lt.mp h3))))) h24)) (fun h24 => ?_)
      refine zo_aload_n (i := i_Mo_tick) (pc := 27) d_Mo_tick_27 rfl rfl ?_
      refine zo_get (i := i_Mo_tick) (pc := 28) 10 0 rfl zok_Mo (Nat.le_of_ble_eq_true rfl) (ztb_of k_858 rfl) d_Mo_tick_28 (fun _ _ _ h => h) (hs.get (t := 0) rfl) rfl ?_
      refine zo_if_ne (i := i_Mo_tick) (pc := 31) (tgt := 103) d_Mo_tick_31 (by decide) (fun h31 => ?_) (fun h31 => False.elim (by first | exact absurd h31 ((by decide)) | exact absurd ((by decide)) h31))
      refine zo_return (i := i_Mo_tick) (pc := 103) hq d_Mo_tick_103 rfl (Nat.le_of_ble_eq_true rfl) (Nat.le_of_ble_eq_true rfl) ?_
      exact k1 hg ws ⟨_, _, hr.thrown, hs⟩
