/-! The model by states: neighbours age (walks by a program, gen71.py). -/
theorem l_ageNb {g : zG} {ws : va_W} {post : Option Value → va_W → Prop} {B : Nat → Nat} {q : hT} {t : Int32} {R : va_W} (h : mS g B q t R ws) {c : Nat} (hc : c < 999999) (ht : q.1.2.1 = nI (c + 1)) {j : Nat} {x : zND} (hx : q.2.2.2.1[j]? = some x) (hv : nV c false x) (hu : q.2.1.1 < 2147483647) (k1 : zgone (nI (c + 1)) (ndA (nI (c + 1)) x) = true → ndQ (nI (c + 1)) x = false → ∀ w, mS g B (tS q (lostS q.1 (q.1.2.2.2.1 + zb (!decide (x.2.2.2.2.2 = 0))))) t R w → post (some (.int 1)) w) (k0 : zgone (nI (c + 1)) (ndA (nI (c + 1)) x) = false → ∀ w, mS g B (tU (tN q (q.2.2.2.1.set j (ndA (nI (c + 1)) x))) (if ndQ (nI (c + 1)) x then ouAdd q.2.1 2 (askTo (ndA (nI (c + 1)) x)) x.1 else q.2.1)) t R w → post (some (.int 0)) w) : zC g i_Mo_ageNeighbour [.ref (B 0), .int (nI j)] ws post := by
  refine zC.intro (by decide +kernel) rfl (Nat.le_of_ble_eq_true rfl) fun x0 hq => ?_
  obtain ⟨m, F, hr, hs⟩ := h
  obtain ⟨o19, o20, o21, o22, o23, o24, ho7⟩ := hr.nb hx
  have hjl := len_of hx
  have hm2 : m 2 = nI (c + 1) := hr.1.2.2.1.trans ht
  refine zo_aload_n (i := i_Mo_ageNeighbour) (pc := 0) d_Mo_ageNeighbour_0 rfl rfl ?_
  refine zo_get (i := i_Mo_ageNeighbour) (pc := 1) 10 2 rfl zok_Mo (Nat.le_of_ble_eq_true rfl) (ztb_of k_860 rfl) d_Mo_ageNeighbour_1 (fun _ _ _ h => h) (hs.get (t := 0) rfl) rfl ?_
  refine zo_aload_n (i := i_Mo_ageNeighbour) (pc := 4) d_Mo_ageNeighbour_4 rfl rfl ?_
  refine zo_get (i := i_Mo_ageNeighbour) (pc := 5) 10 23 rfl zok_Mo (Nat.le_of_ble_eq_true rfl) (ztb_of k_881 rfl) d_Mo_ageNeighbour_5 (fun _ _ _ h => h) (hs.get (t := 0) rfl) rfl ?_
  refine zo_iload_n (i := i_Mo_ageNeighbour) (pc := 8) d_Mo_ageNeighbour_8 rfl ?_
  refine zo_iaload (i := i_Mo_ageNeighbour) (pc := 9) d_Mo_ageNeighbour_9 (hs.get (t := 13) rfl) (vp_in_nI (by omega) (by decide)) ?_
  refine zo_isub (i := i_Mo_ageNeighbour) (pc := 10) d_Mo_ageNeighbour_10 ?_
  refine zo_istore_n (i := i_Mo_ageNeighbour) (pc := 11) d_Mo_ageNeighbour_11 (Nat.le_of_ble_eq_true rfl) ?_
  refine zo_aload_n (i := i_Mo_ageNeighbour) (pc := 12) d_Mo_ageNeighbour_12 rfl rfl ?_
  refine zo_get (i := i_Mo_ageNeighbour) (pc := 13) 10 22 rfl zok_Mo (Nat.le_of_ble_eq_true rfl) (ztb_of k_880 rfl) d_Mo_ageNeighbour_13 (fun _ _ _ h => h) (hs.get (t := 0) rfl) rfl ?_
  refine zo_iload_n (i := i_Mo_ageNeighbour) (pc := 16) d_Mo_ageNeighbour_16 rfl ?_
  refine zo_iaload (i := i_Mo_ageNeighbour) (pc := 17) d_Mo_ageNeighbour_17 (hs.get (t := 12) rfl) (vp_in_nI (by omega) (by decide)) ?_
  refine zo_iconst (i := i_Mo_ageNeighbour) (pc := 18) (v := 1) d_Mo_ageNeighbour_18 (by decide) ?_
  refine zo_icmp_eq (i := i_Mo_ageNeighbour) (pc := 19) (tgt := 32) d_Mo_ageNeighbour_19 (by decide) (fun h19 => ?_) (fun h19 => ?_)
  · refine zo_iload_n (i := i_Mo_ageNeighbour) (pc := 32) d_Mo_ageNeighbour_32 rfl ?_
    refine zo_iconst (i := i_Mo_ageNeighbour) (pc := 33) (v := 3) d_Mo_ageNeighbour_33 (by decide) ?_
    refine zo_icmp_ne (i := i_Mo_ageNeighbour) (pc := 34) (tgt := 72) d_Mo_ageNeighbour_34 (by decide) (fun h34 => ?_) (fun h34 => ?_)
    · refine zo_aload_n (i := i_Mo_ageNeighbour) (pc := 72) d_Mo_ageNeighbour_72 rfl rfl ?_
      refine zo_iload_n (i := i_Mo_ageNeighbour) (pc := 73) d_Mo_ageNeighbour_73 rfl ?_
      refine zc_V1 (i := i_Mo_ageNeighbour) (pc := 74) 10 rfl m_Mo_ask (ztb_of k_980 rfl) (ztb_of k_982 rfl) s_Mo_ask d_Mo_ageNeighbour_74 (Nat.le_of_ble_eq_true rfl) (Nat.le_of_ble_eq_true rfl) (Nat.le_of_ble_eq_true rfl) (Nat.le_of_ble_eq_true rfl) (hs.get (t := 0) rfl) (l_ask ⟨_, _, hr, hs⟩ (by omega) hx fun ws hS => ?_)
      refine zo_goto (i := i_Mo_ageNeighbour) (pc := 77) (tgt := 131) d_Mo_ageNeighbour_77 (by decide) ?_
      refine zo_iconst (i := i_Mo_ageNeighbour) (pc := 131) (v := 0) d_Mo_ageNeighbour_131 (by decide) ?_
      refine zo_zreturn (i := i_Mo_ageNeighbour) (pc := 132) hq d_Mo_ageNeighbour_132 rfl rfl (Nat.le_of_ble_eq_true rfl) (Nat.le_of_ble_eq_true rfl) ?_
      rw [o22] at h19
      rw [hm2, o23] at h34
      have ha : zasked x.2.2.1 = true := by rw [h19]; rfl
      obtain ⟨f1, f2, f3⟩ := nb_ask (by omega) hv ha h34
      have kk := k0 f1
      rw [f2, f3, zset_self hx, if_pos rfl] at kk
      exact kk ws hS
    · refine zo_aload_n (i := i_Mo_ageNeighbour) (pc := 37) d_Mo_ageNeighbour_37 rfl rfl ?_
      refine zo_dup (i := i_Mo_ageNeighbour) (pc := 38) d_Mo_ageNeighbour_38 rfl ?_
      refine zo_get (i := i_Mo_ageNeighbour) (pc := 39) 10 6 rfl zok_Mo (Nat.le_of_ble_eq_true rfl) (ztb_of k_864 rfl) d_Mo_ageNeighbour_39 (fun _ _ _ h => h) (hs.get (t := 0) rfl) rfl ?_
      refine zo_aload_n (i := i_Mo_ageNeighbour) (pc := 42) d_Mo_ageNeighbour_42 rfl rfl ?_
      refine zo_get (i := i_Mo_ageNeighbour) (pc := 43) 10 22 rfl zok_Mo (Nat.le_of_ble_eq_true rfl) (ztb_of k_880 rfl) d_Mo_ageNeighbour_43 (fun _ _ _ h => h) (hs.get (t := 0) rfl) rfl ?_
      refine zo_iload_n (i := i_Mo_ageNeighbour) (pc := 46) d_Mo_ageNeighbour_46 rfl ?_
      refine zo_iaload (i := i_Mo_ageNeighbour) (pc := 47) d_Mo_ageNeighbour_47 (hs.get (t := 12) rfl) (vp_in_nI (by omega) (by decide)) ?_
      refine zo_iconst (i := i_Mo_ageNeighbour) (pc := 48) (v := 1) d_Mo_ageNeighbour_48 (by decide) ?_
      refine zo_icmp_ne (i := i_Mo_ageNeighbour) (pc := 49) (tgt := 65) d_Mo_ageNeighbour_49 (by decide) (fun h49 => False.elim (by first | exact absurd h49 (h19) | exact absurd (h19) h49)) (fun h49 => ?_)
      refine zo_aload_n (i := i_Mo_ageNeighbour) (pc := 52) d_Mo_ageNeighbour_52 rfl rfl ?_
      refine zo_get (i := i_Mo_ageNeighbour) (pc := 53) 10 24 rfl zok_Mo (Nat.le_of_ble_eq_true rfl) (ztb_of k_882 rfl) d_Mo_ageNeighbour_53 (fun _ _ _ h => h) (hs.get (t := 0) rfl) rfl ?_
      refine zo_iload_n (i := i_Mo_ageNeighbour) (pc := 56) d_Mo_ageNeighbour_56 rfl ?_
      refine zo_iaload (i := i_Mo_ageNeighbour) (pc := 57) d_Mo_ageNeighbour_57 (hs.get (t := 14) rfl) (vp_in_nI (by omega) (by decide)) ?_
      refine zo_if_le (i := i_Mo_ageNeighbour) (pc := 58) (tgt := 65) d_Mo_ageNeighbour_58 (by decide) (fun h58 => ?_) (fun h58 => ?_)
      · refine zo_iconst (i := i_Mo_ageNeighbour) (pc := 65) (v := 0) d_Mo_ageNeighbour_65 (by decide) ?_
        refine zo_iadd (i := i_Mo_ageNeighbour) (pc := 66) d_Mo_ageNeighbour_66 ?_
        refine zh_put (i := i_Mo_ageNeighbour) (pc := 67) 10 6 rfl zok_Mo (Nat.le_of_ble_eq_true rfl) (ztb_of k_864 rfl) rfl d_Mo_ageNeighbour_67 (fun _ _ _ h => h) (t_Mo_ok 6 (Nat.le_of_ble_eq_true rfl)) rfl rfl hs 0 rfl (Nat.le_of_ble_eq_true rfl) fun ws hs => ?_
        refine zo_iconst (i := i_Mo_ageNeighbour) (pc := 70) (v := 1) d_Mo_ageNeighbour_70 (by decide) ?_
        refine zo_zreturn (i := i_Mo_ageNeighbour) (pc := 71) hq d_Mo_ageNeighbour_71 rfl rfl (Nat.le_of_ble_eq_true rfl) (Nat.le_of_ble_eq_true rfl) ?_
        rw [o22] at h19
        rw [hm2, o23] at h34
        have ha : zasked x.2.2.1 = true := by rw [h19]; rfl
        obtain ⟨f1, f2, f3⟩ := nb_gone ha h34
        rw [o24] at h58
        have hz : zb (!decide (x.2.2.2.2.2 = 0)) = 0 := by rw [decide_eq_true (Decidable.not_not.mp (fun hh => ((nb_lost hv).mpr hh).2 h58))]; rfl
        replace hs : zHas ws (moW g B (mup m 6 (m 6 + 0)) F ++ R) := hs
        obtain ⟨a0, a1, a2, a3, a4, a5, a6, a7⟩ := hr.1
        refine k1 f1 f2 ws ⟨_, _, hr.setS (m' := mup m 6 (m 6 + 0)) ⟨a0, a1, a2, a3, a4, a5, ?_, a7⟩ (fun k hk => mup_ne (by omega)), hs⟩
        rw [hz]
        show m 6 + _ = q.1.2.2.2.1 + _
        rw [a6]
      · refine zo_iconst (i := i_Mo_ageNeighbour) (pc := 61) (v := 1) d_Mo_ageNeighbour_61 (by decide) ?_
        refine zo_goto (i := i_Mo_ageNeighbour) (pc := 62) (tgt := 66) d_Mo_ageNeighbour_62 (by decide) ?_
        refine zo_iadd (i := i_Mo_ageNeighbour) (pc := 66) d_Mo_ageNeighbour_66 ?_
        refine zh_put (i := i_Mo_ageNeighbour) (pc := 67) 10 6 rfl zok_Mo (Nat.le_of_ble_eq_true rfl) (ztb_of k_864 rfl) rfl d_Mo_ageNeighbour_67 (fun _ _ _ h => h) (t_Mo_ok 6 (Nat.le_of_ble_eq_true rfl)) rfl rfl hs 0 rfl (Nat.le_of_ble_eq_true rfl) fun ws hs => ?_
        refine zo_iconst (i := i_Mo_ageNeighbour) (pc := 70) (v := 1) d_Mo_ageNeighbour_70 (by decide) ?_
        refine zo_zreturn (i := i_Mo_ageNeighbour) (pc := 71) hq d_Mo_ageNeighbour_71 rfl rfl (Nat.le_of_ble_eq_true rfl) (Nat.le_of_ble_eq_true rfl) ?_
        rw [o22] at h19
        rw [hm2, o23] at h34
        have ha : zasked x.2.2.1 = true := by rw [h19]; rfl
        obtain ⟨f1, f2, f3⟩ := nb_gone ha h34
        rw [o24] at h58
        have hz : zb (!decide (x.2.2.2.2.2 = 0)) = 1 := by rw [decide_eq_false ((nb_lost hv).mp ⟨h19, h58⟩)]; rfl
        replace hs : zHas ws (moW g B (mup m 6 (m 6 + 1)) F ++ R) := hs
        obtain ⟨a0, a1, a2, a3, a4, a5, a6, a7⟩ := hr.1
        refine k1 f1 f2 ws ⟨_, _, hr.setS (m' := mup m 6 (m 6 + 1)) ⟨a0, a1, a2, a3, a4, a5, ?_, a7⟩ (fun k hk => mup_ne (by omega)), hs⟩
        rw [hz]
        show m 6 + _ = q.1.2.2.2.1 + _
        rw [a6]
  · refine zo_aload_n (i := i_Mo_ageNeighbour) (pc := 22) d_Mo_ageNeighbour_22 rfl rfl ?_
    refine zo_get (i := i_Mo_ageNeighbour) (pc := 23) 10 22 rfl zok_Mo (Nat.le_of_ble_eq_true rfl) (ztb_of k_880 rfl) d_Mo_ageNeighbour_23 (fun _ _ _ h => h) (hs.get (t := 0) rfl) rfl ?_
    refine zo_iload_n (i := i_Mo_ageNeighbour) (pc := 26) d_Mo_ageNeighbour_26 rfl ?_
    refine zo_iaload (i := i_Mo_ageNeighbour) (pc := 27) d_Mo_ageNeighbour_27 (hs.get (t := 12) rfl) (vp_in_nI (by omega) (by decide)) ?_
    refine zo_iconst (i := i_Mo_ageNeighbour) (pc := 28) (v := 5) d_Mo_ageNeighbour_28 (by decide) ?_
    refine zo_icmp_ne (i := i_Mo_ageNeighbour) (pc := 29) (tgt := 80) d_Mo_ageNeighbour_29 (by decide) (fun h29 => ?_) (fun h29 => ?_)
    · refine zo_aload_n (i := i_Mo_ageNeighbour) (pc := 80) d_Mo_ageNeighbour_80 rfl rfl ?_
      refine zo_get (i := i_Mo_ageNeighbour) (pc := 81) 10 22 rfl zok_Mo (Nat.le_of_ble_eq_true rfl) (ztb_of k_880 rfl) d_Mo_ageNeighbour_81 (fun _ _ _ h => h) (hs.get (t := 0) rfl) rfl ?_
      refine zo_iload_n (i := i_Mo_ageNeighbour) (pc := 84) d_Mo_ageNeighbour_84 rfl ?_
      refine zo_iaload (i := i_Mo_ageNeighbour) (pc := 85) d_Mo_ageNeighbour_85 (hs.get (t := 12) rfl) (vp_in_nI (by omega) (by decide)) ?_
      refine zo_iconst (i := i_Mo_ageNeighbour) (pc := 86) (v := 2) d_Mo_ageNeighbour_86 (by decide) ?_
      refine zo_icmp_ne (i := i_Mo_ageNeighbour) (pc := 87) (tgt := 105) d_Mo_ageNeighbour_87 (by decide) (fun h87 => ?_) (fun h87 => ?_)
      · refine zo_aload_n (i := i_Mo_ageNeighbour) (pc := 105) d_Mo_ageNeighbour_105 rfl rfl ?_
        refine zo_get (i := i_Mo_ageNeighbour) (pc := 106) 10 22 rfl zok_Mo (Nat.le_of_ble_eq_true rfl) (ztb_of k_880 rfl) d_Mo_ageNeighbour_106 (fun _ _ _ h => h) (hs.get (t := 0) rfl) rfl ?_
        refine zo_iload_n (i := i_Mo_ageNeighbour) (pc := 109) d_Mo_ageNeighbour_109 rfl ?_
        refine zo_iaload (i := i_Mo_ageNeighbour) (pc := 110) d_Mo_ageNeighbour_110 (hs.get (t := 12) rfl) (vp_in_nI (by omega) (by decide)) ?_
        refine zo_iconst (i := i_Mo_ageNeighbour) (pc := 111) (v := 4) d_Mo_ageNeighbour_111 (by decide) ?_
        refine zo_icmp_ne (i := i_Mo_ageNeighbour) (pc := 112) (tgt := 131) d_Mo_ageNeighbour_112 (by decide) (fun h112 => ?_) (fun h112 => ?_)
        · refine zo_iconst (i := i_Mo_ageNeighbour) (pc := 131) (v := 0) d_Mo_ageNeighbour_131 (by decide) ?_
          refine zo_zreturn (i := i_Mo_ageNeighbour) (pc := 132) hq d_Mo_ageNeighbour_132 rfl rfl (Nat.le_of_ble_eq_true rfl) (Nat.le_of_ble_eq_true rfl) ?_
          rw [o22] at h19
          rw [o22] at h29
          rw [o22] at h87
          rw [o22] at h112
          have ha : ¬ zasked x.2.2.1 = true := by unfold zasked; rw [decide_eq_false h19, decide_eq_false h29]; decide
          obtain ⟨f1, f2, f3⟩ := nb_stay (by omega) hv ha (fun hh => h87 hh.1) (fun hh => h112 hh.1)
          have kk := k0 f1
          rw [f2, f3, zset_self hx, if_neg (by decide)] at kk
          exact kk ws ⟨_, _, hr, hs⟩
        · refine zo_iload_n (i := i_Mo_ageNeighbour) (pc := 115) d_Mo_ageNeighbour_115 rfl ?_
          refine zo_iconst (i := i_Mo_ageNeighbour) (pc := 116) (v := 5) d_Mo_ageNeighbour_116 (by decide) ?_
          refine zo_icmp_ne (i := i_Mo_ageNeighbour) (pc := 117) (tgt := 131) d_Mo_ageNeighbour_117 (by decide) (fun h117 => ?_) (fun h117 => ?_)
          · refine zo_iconst (i := i_Mo_ageNeighbour) (pc := 131) (v := 0) d_Mo_ageNeighbour_131 (by decide) ?_
            refine zo_zreturn (i := i_Mo_ageNeighbour) (pc := 132) hq d_Mo_ageNeighbour_132 rfl rfl (Nat.le_of_ble_eq_true rfl) (Nat.le_of_ble_eq_true rfl) ?_
            rw [o22] at h19
            rw [o22] at h29
            rw [o22] at h87
            rw [o22] at h112
            rw [hm2, o23] at h117
            have ha : ¬ zasked x.2.2.1 = true := by unfold zasked; rw [decide_eq_false h19, decide_eq_false h29]; decide
            obtain ⟨f1, f2, f3⟩ := nb_stay (by omega) hv ha (fun hh => h87 hh.1) (fun hh => h117 hh.2)
            have kk := k0 f1
            rw [f2, f3, zset_self hx, if_neg (by decide)] at kk
            exact kk ws ⟨_, _, hr, hs⟩
          · refine zo_aload_n (i := i_Mo_ageNeighbour) (pc := 120) d_Mo_ageNeighbour_120 rfl rfl ?_
            refine zo_iload_n (i := i_Mo_ageNeighbour) (pc := 121) d_Mo_ageNeighbour_121 rfl ?_
            refine zo_iconst (i := i_Mo_ageNeighbour) (pc := 122) (v := 5) d_Mo_ageNeighbour_122 (by decide) ?_
            refine zc_V2 (i := i_Mo_ageNeighbour) (pc := 123) 10 rfl m_Mo_turn (ztb_of k_984 rfl) (ztb_of k_986 rfl) s_Mo_turn d_Mo_ageNeighbour_123 (Nat.le_of_ble_eq_true rfl) (Nat.le_of_ble_eq_true rfl) (Nat.le_of_ble_eq_true rfl) (Nat.le_of_ble_eq_true rfl) (hs.get (t := 0) rfl) (l_turn ⟨_, _, hr, hs⟩ hx fun ws hS => ?_)
            have hx1 : (tN q (q.2.2.2.1.set j (ndS x 5 q.1.2.1))).2.2.2.1[j]? = some (ndS x 5 q.1.2.1) := by
              show (q.2.2.2.1.set j (ndS x 5 q.1.2.1))[j]? = _
              rw [List.getElem?_set, if_pos rfl, if_pos hjl]
            obtain ⟨m1, F1, hr1, hs⟩ := hS
            refine zo_aload_n (i := i_Mo_ageNeighbour) (pc := 126) d_Mo_ageNeighbour_126 rfl rfl ?_
            refine zo_iload_n (i := i_Mo_ageNeighbour) (pc := 127) d_Mo_ageNeighbour_127 rfl ?_
            refine zc_V1 (i := i_Mo_ageNeighbour) (pc := 128) 10 rfl m_Mo_ask (ztb_of k_980 rfl) (ztb_of k_982 rfl) s_Mo_ask d_Mo_ageNeighbour_128 (Nat.le_of_ble_eq_true rfl) (Nat.le_of_ble_eq_true rfl) (Nat.le_of_ble_eq_true rfl) (Nat.le_of_ble_eq_true rfl) (hs.get (t := 0) rfl) (l_ask ⟨_, _, hr1, hs⟩ (by show q.2.1.1 < _; omega) hx1 fun ws hS => ?_)
            refine zo_iconst (i := i_Mo_ageNeighbour) (pc := 131) (v := 0) d_Mo_ageNeighbour_131 (by decide) ?_
            refine zo_zreturn (i := i_Mo_ageNeighbour) (pc := 132) hq d_Mo_ageNeighbour_132 rfl rfl (Nat.le_of_ble_eq_true rfl) (Nat.le_of_ble_eq_true rfl) ?_
            rw [o22] at h19
            rw [o22] at h29
            rw [o22] at h87
            rw [o22] at h112
            rw [hm2, o23] at h117
            obtain ⟨f1, f2, f3⟩ := nb_probe h112 h117
            have kk := k0 f1
            rw [f2, f3, if_pos rfl] at kk
            rw [ht] at hS
            exact kk ws hS
      · refine zo_iload_n (i := i_Mo_ageNeighbour) (pc := 90) d_Mo_ageNeighbour_90 rfl ?_
        refine zo_bipush (i := i_Mo_ageNeighbour) (pc := 91) (v := 10) d_Mo_ageNeighbour_91 (by decide) ?_
        refine zo_icmp_ne (i := i_Mo_ageNeighbour) (pc := 93) (tgt := 105) d_Mo_ageNeighbour_93 (by decide) (fun h93 => ?_) (fun h93 => ?_)
        · refine zo_aload_n (i := i_Mo_ageNeighbour) (pc := 105) d_Mo_ageNeighbour_105 rfl rfl ?_
          refine zo_get (i := i_Mo_ageNeighbour) (pc := 106) 10 22 rfl zok_Mo (Nat.le_of_ble_eq_true rfl) (ztb_of k_880 rfl) d_Mo_ageNeighbour_106 (fun _ _ _ h => h) (hs.get (t := 0) rfl) rfl ?_
          refine zo_iload_n (i := i_Mo_ageNeighbour) (pc := 109) d_Mo_ageNeighbour_109 rfl ?_
          refine zo_iaload (i := i_Mo_ageNeighbour) (pc := 110) d_Mo_ageNeighbour_110 (hs.get (t := 12) rfl) (vp_in_nI (by omega) (by decide)) ?_
          refine zo_iconst (i := i_Mo_ageNeighbour) (pc := 111) (v := 4) d_Mo_ageNeighbour_111 (by decide) ?_
          refine zo_icmp_ne (i := i_Mo_ageNeighbour) (pc := 112) (tgt := 131) d_Mo_ageNeighbour_112 (by decide) (fun h112 => ?_) (fun h112 => False.elim (by first | exact absurd h112 ((by rw [h87]; decide)) | exact absurd ((by rw [h87]; decide)) h112))
          refine zo_iconst (i := i_Mo_ageNeighbour) (pc := 131) (v := 0) d_Mo_ageNeighbour_131 (by decide) ?_
          refine zo_zreturn (i := i_Mo_ageNeighbour) (pc := 132) hq d_Mo_ageNeighbour_132 rfl rfl (Nat.le_of_ble_eq_true rfl) (Nat.le_of_ble_eq_true rfl) ?_
          rw [o22] at h19
          rw [o22] at h29
          rw [o22] at h87
          rw [hm2, o23] at h93
          have ha : ¬ zasked x.2.2.1 = true := by unfold zasked; rw [decide_eq_false h19, decide_eq_false h29]; decide
          obtain ⟨f1, f2, f3⟩ := nb_stay (by omega) hv ha (fun hh => h93 hh.2) (fun hh => by rw [h87] at hh; exact absurd hh.1 (by decide))
          have kk := k0 f1
          rw [f2, f3, zset_self hx, if_neg (by decide)] at kk
          exact kk ws ⟨_, _, hr, hs⟩
        · refine zo_aload_n (i := i_Mo_ageNeighbour) (pc := 96) d_Mo_ageNeighbour_96 rfl rfl ?_
          refine zo_iload_n (i := i_Mo_ageNeighbour) (pc := 97) d_Mo_ageNeighbour_97 rfl ?_
          refine zo_iconst (i := i_Mo_ageNeighbour) (pc := 98) (v := 3) d_Mo_ageNeighbour_98 (by decide) ?_
          refine zc_V2 (i := i_Mo_ageNeighbour) (pc := 99) 10 rfl m_Mo_turn (ztb_of k_984 rfl) (ztb_of k_986 rfl) s_Mo_turn d_Mo_ageNeighbour_99 (Nat.le_of_ble_eq_true rfl) (Nat.le_of_ble_eq_true rfl) (Nat.le_of_ble_eq_true rfl) (Nat.le_of_ble_eq_true rfl) (hs.get (t := 0) rfl) (l_turn ⟨_, _, hr, hs⟩ hx fun ws hS => ?_)
          refine zo_goto (i := i_Mo_ageNeighbour) (pc := 102) (tgt := 131) d_Mo_ageNeighbour_102 (by decide) ?_
          refine zo_iconst (i := i_Mo_ageNeighbour) (pc := 131) (v := 0) d_Mo_ageNeighbour_131 (by decide) ?_
          refine zo_zreturn (i := i_Mo_ageNeighbour) (pc := 132) hq d_Mo_ageNeighbour_132 rfl rfl (Nat.le_of_ble_eq_true rfl) (Nat.le_of_ble_eq_true rfl) ?_
          rw [o22] at h19
          rw [o22] at h29
          rw [o22] at h87
          rw [hm2, o23] at h93
          obtain ⟨f1, f2, f3⟩ := nb_stale h87 h93
          have kk := k0 f1
          rw [f2, f3, if_neg (by decide)] at kk
          rw [ht] at hS
          exact kk ws hS
    · refine zo_iload_n (i := i_Mo_ageNeighbour) (pc := 32) d_Mo_ageNeighbour_32 rfl ?_
      refine zo_iconst (i := i_Mo_ageNeighbour) (pc := 33) (v := 3) d_Mo_ageNeighbour_33 (by decide) ?_
      refine zo_icmp_ne (i := i_Mo_ageNeighbour) (pc := 34) (tgt := 72) d_Mo_ageNeighbour_34 (by decide) (fun h34 => ?_) (fun h34 => ?_)
      · refine zo_aload_n (i := i_Mo_ageNeighbour) (pc := 72) d_Mo_ageNeighbour_72 rfl rfl ?_
        refine zo_iload_n (i := i_Mo_ageNeighbour) (pc := 73) d_Mo_ageNeighbour_73 rfl ?_
        refine zc_V1 (i := i_Mo_ageNeighbour) (pc := 74) 10 rfl m_Mo_ask (ztb_of k_980 rfl) (ztb_of k_982 rfl) s_Mo_ask d_Mo_ageNeighbour_74 (Nat.le_of_ble_eq_true rfl) (Nat.le_of_ble_eq_true rfl) (Nat.le_of_ble_eq_true rfl) (Nat.le_of_ble_eq_true rfl) (hs.get (t := 0) rfl) (l_ask ⟨_, _, hr, hs⟩ (by omega) hx fun ws hS => ?_)
        refine zo_goto (i := i_Mo_ageNeighbour) (pc := 77) (tgt := 131) d_Mo_ageNeighbour_77 (by decide) ?_
        refine zo_iconst (i := i_Mo_ageNeighbour) (pc := 131) (v := 0) d_Mo_ageNeighbour_131 (by decide) ?_
        refine zo_zreturn (i := i_Mo_ageNeighbour) (pc := 132) hq d_Mo_ageNeighbour_132 rfl rfl (Nat.le_of_ble_eq_true rfl) (Nat.le_of_ble_eq_true rfl) ?_
        rw [o22] at h19
        rw [o22] at h29
        rw [hm2, o23] at h34
        have ha : zasked x.2.2.1 = true := by rw [h29]; rfl
        obtain ⟨f1, f2, f3⟩ := nb_ask (by omega) hv ha h34
        have kk := k0 f1
        rw [f2, f3, zset_self hx, if_pos rfl] at kk
        exact kk ws hS
      · refine zo_aload_n (i := i_Mo_ageNeighbour) (pc := 37) d_Mo_ageNeighbour_37 rfl rfl ?_
        refine zo_dup (i := i_Mo_ageNeighbour) (pc := 38) d_Mo_ageNeighbour_38 rfl ?_
        refine zo_get (i := i_Mo_ageNeighbour) (pc := 39) 10 6 rfl zok_Mo (Nat.le_of_ble_eq_true rfl) (ztb_of k_864 rfl) d_Mo_ageNeighbour_39 (fun _ _ _ h => h) (hs.get (t := 0) rfl) rfl ?_
        refine zo_aload_n (i := i_Mo_ageNeighbour) (pc := 42) d_Mo_ageNeighbour_42 rfl rfl ?_
        refine zo_get (i := i_Mo_ageNeighbour) (pc := 43) 10 22 rfl zok_Mo (Nat.le_of_ble_eq_true rfl) (ztb_of k_880 rfl) d_Mo_ageNeighbour_43 (fun _ _ _ h => h) (hs.get (t := 0) rfl) rfl ?_
        refine zo_iload_n (i := i_Mo_ageNeighbour) (pc := 46) d_Mo_ageNeighbour_46 rfl ?_
        refine zo_iaload (i := i_Mo_ageNeighbour) (pc := 47) d_Mo_ageNeighbour_47 (hs.get (t := 12) rfl) (vp_in_nI (by omega) (by decide)) ?_
        refine zo_iconst (i := i_Mo_ageNeighbour) (pc := 48) (v := 1) d_Mo_ageNeighbour_48 (by decide) ?_
        refine zo_icmp_ne (i := i_Mo_ageNeighbour) (pc := 49) (tgt := 65) d_Mo_ageNeighbour_49 (by decide) (fun h49 => ?_) (fun h49 => False.elim (by first | exact absurd h49 (h19) | exact absurd (h19) h49))
        refine zo_iconst (i := i_Mo_ageNeighbour) (pc := 65) (v := 0) d_Mo_ageNeighbour_65 (by decide) ?_
        refine zo_iadd (i := i_Mo_ageNeighbour) (pc := 66) d_Mo_ageNeighbour_66 ?_
        refine zh_put (i := i_Mo_ageNeighbour) (pc := 67) 10 6 rfl zok_Mo (Nat.le_of_ble_eq_true rfl) (ztb_of k_864 rfl) rfl d_Mo_ageNeighbour_67 (fun _ _ _ h => h) (t_Mo_ok 6 (Nat.le_of_ble_eq_true rfl)) rfl rfl hs 0 rfl (Nat.le_of_ble_eq_true rfl) fun ws hs => ?_
        refine zo_iconst (i := i_Mo_ageNeighbour) (pc := 70) (v := 1) d_Mo_ageNeighbour_70 (by decide) ?_
        refine zo_zreturn (i := i_Mo_ageNeighbour) (pc := 71) hq d_Mo_ageNeighbour_71 rfl rfl (Nat.le_of_ble_eq_true rfl) (Nat.le_of_ble_eq_true rfl) ?_
        rw [o22] at h19
        rw [o22] at h29
        rw [hm2, o23] at h34
        have ha : zasked x.2.2.1 = true := by rw [h29]; rfl
        obtain ⟨f1, f2, f3⟩ := nb_gone ha h34
        have hz : zb (!decide (x.2.2.2.2.2 = 0)) = 0 := by rw [decide_eq_true (Decidable.not_not.mp (fun hh => h19 ((nb_lost hv).mpr hh).1))]; rfl
        replace hs : zHas ws (moW g B (mup m 6 (m 6 + 0)) F ++ R) := hs
        obtain ⟨a0, a1, a2, a3, a4, a5, a6, a7⟩ := hr.1
        refine k1 f1 f2 ws ⟨_, _, hr.setS (m' := mup m 6 (m 6 + 0)) ⟨a0, a1, a2, a3, a4, a5, ?_, a7⟩ (fun k hk => mup_ne (by omega)), hs⟩
        rw [hz]
        show m 6 + _ = q.1.2.2.2.1 + _
        rw [a6]
theorem ndA_w {t : Int32} {x : zND} : (ndA t x).2.2.2.2.2 = x.2.2.2.2.2 := by
  unfold ndA
  split
  · rfl
  · split
    · rfl
    · split <;> rfl
theorem l_ageNbs {g : zG} {ws : va_W} {post : Option Value → va_W → Prop} {B : Nat → Nat} {q : hT} {t : Int32} {R : va_W} (h : mS g B q t R ws) {c : Nat} (hc : c < 999999) (ht : q.1.2.1 = nI (c + 1)) (hv : ∀ x ∈ q.2.2.2.1, nV c false x) (hu : q.2.1.1 + 6 < 2147483647) (k : ∀ w, mS g B (tS (tU (tN q ((q.2.2.2.1.map (ndA (nI (c + 1)))).filter (fun x => !zgone (nI (c + 1)) x))) (uNbT (nI (c + 1)) q.2.2.2.1 q.2.1)) (lostS q.1 (q.1.2.2.2.1 + zgwT (nI (c + 1)) (q.2.2.2.1.map (ndA (nI (c + 1))))))) t R w → post none w) : zC g i_Mo_ageNeighbours [.ref (B 0)] ws post := by
  refine zC.intro (by decide +kernel) rfl (Nat.le_of_ble_eq_true rfl) fun x0 hq => ?_
  obtain ⟨m, F, hr, hs⟩ := h
  have hl6 := hr.2.2.2.1.2.1
  have loop : ∀ (rest done : List zND) (u : hOu) (w : Int32) (ws : va_W), mS g B (tS (tU (tN q (done ++ rest)) u) (lostS q.1 w)) t R ws → done ++ (rest.map (ndA (nI (c + 1)))).filter (fun x => !zgone (nI (c + 1)) x) = (q.2.2.2.1.map (ndA (nI (c + 1)))).filter (fun x => !zgone (nI (c + 1)) x) → uNbT (nI (c + 1)) rest u = uNbT (nI (c + 1)) q.2.2.2.1 q.2.1 → w + zgwT (nI (c + 1)) (rest.map (ndA (nI (c + 1)))) = q.1.2.2.2.1 + zgwT (nI (c + 1)) (q.2.2.2.1.map (ndA (nI (c + 1)))) → (∀ x ∈ rest, nV c false x) → u.1 + rest.length < 2147483647 → zW x0 g i_Mo_ageNeighbours 2 [some (.ref (B 0)), some (.int (nI done.length))] [] ws 0 0 := by
    intro rest
    induction rest with
    | nil =>
      intro done u w ws hS hd hue hwe hvv hul
      obtain ⟨m, F, hr, hs⟩ := hS
      have e18 : m 18 = nI done.length := by rw [hr.2.2.2.1.1]; show nI (done ++ []).length = _; rw [List.append_nil]
      have hlen : done.length ≤ 6 := by have := hr.2.2.2.1.2.1; rw [show (tS (tU (tN q (done ++ [])) u) (lostS q.1 w)).2.2.2.1 = done ++ [] from rfl, List.append_nil] at this; exact this
      rw [List.map_nil, List.filter_nil] at hd
      rw [show uNbT (nI (c + 1)) [] u = u from rfl] at hue
      rw [List.map_nil, show zgwT (nI (c + 1)) [] = 0 from rfl, Int32.add_zero] at hwe
      rw [hd, hue, hwe] at hr
      refine zo_iload_n (i := i_Mo_ageNeighbours) (pc := 2) d_Mo_ageNeighbours_2 rfl ?_
      refine zo_aload_n (i := i_Mo_ageNeighbours) (pc := 3) d_Mo_ageNeighbours_3 rfl rfl ?_
      refine zo_get (i := i_Mo_ageNeighbours) (pc := 4) 10 18 rfl zok_Mo (Nat.le_of_ble_eq_true rfl) (ztb_of k_876 rfl) d_Mo_ageNeighbours_4 (fun _ _ _ h => h) (hs.get (t := 0) rfl) rfl ?_
      refine zo_icmp_ge (i := i_Mo_ageNeighbours) (pc := 7) (tgt := 32) d_Mo_ageNeighbours_7 (by decide) (fun h7 => ?_) (fun h7 => False.elim (by first | exact absurd h7 ((by rw [e18]; exact nI_le (Nat.le_refl _) (by omega))) | exact absurd ((by rw [e18]; exact nI_le (Nat.le_refl _) (by omega))) h7))
      refine zo_return (i := i_Mo_ageNeighbours) (pc := 32) hq d_Mo_ageNeighbours_32 rfl (Nat.le_of_ble_eq_true rfl) (Nat.le_of_ble_eq_true rfl) ?_
      exact k ws ⟨_, _, hr, hs⟩
    | cons x r ih =>
      intro done u w ws hS hd hue hwe hvv hul
      obtain ⟨m, F, hr, hs⟩ := hS
      have e18 : m 18 = nI (done.length + (r.length + 1)) := by rw [hr.2.2.2.1.1]; show nI (done ++ x :: r).length = _; rw [List.length_append, List.length_cons]
      have hlen : done.length + (r.length + 1) ≤ 6 := by have := hr.2.2.2.1.2.1; rw [show (tS (tU (tN q (done ++ x :: r)) u) (lostS q.1 w)).2.2.2.1 = done ++ x :: r from rfl, List.length_append, List.length_cons] at this; exact this
      have hx : (tS (tU (tN q (done ++ x :: r)) u) (lostS q.1 w)).2.2.2.1[done.length]? = some x := mid done r x
      have hxv := hvv x List.mem_cons_self
      have hvr : ∀ y ∈ r, nV c false y := fun y hy => hvv y (List.mem_cons_of_mem _ hy)
      rw [List.length_cons] at hul
      have hn1 : ∀ y : zND, nI (done.length + 1) = nI (done ++ [y]).length := fun y => by rw [List.length_append]; rfl
      rw [List.map_cons] at hd hwe
      rw [show uNbT (nI (c + 1)) (x :: r) u = uNbT (nI (c + 1)) r (if ndQ (nI (c + 1)) x then ouAdd u 2 (askTo (ndA (nI (c + 1)) x)) x.1 else u) from rfl] at hue
      rw [show zgwT (nI (c + 1)) (ndA (nI (c + 1)) x :: r.map (ndA (nI (c + 1)))) = if zgone (nI (c + 1)) (ndA (nI (c + 1)) x) then zgwT (nI (c + 1)) (r.map (ndA (nI (c + 1)))) + zb (!decide ((ndA (nI (c + 1)) x).2.2.2.2.2 = 0)) else zgwT (nI (c + 1)) (r.map (ndA (nI (c + 1)))) from rfl] at hwe
      refine zo_iload_n (i := i_Mo_ageNeighbours) (pc := 2) d_Mo_ageNeighbours_2 rfl ?_
      refine zo_aload_n (i := i_Mo_ageNeighbours) (pc := 3) d_Mo_ageNeighbours_3 rfl rfl ?_
      refine zo_get (i := i_Mo_ageNeighbours) (pc := 4) 10 18 rfl zok_Mo (Nat.le_of_ble_eq_true rfl) (ztb_of k_876 rfl) d_Mo_ageNeighbours_4 (fun _ _ _ h => h) (hs.get (t := 0) rfl) rfl ?_
      refine zo_icmp_ge (i := i_Mo_ageNeighbours) (pc := 7) (tgt := 32) d_Mo_ageNeighbours_7 (by decide) (fun h7 => False.elim (by first | exact absurd h7 ((by rw [e18]; exact nI_ge (by omega) (by omega))) | exact absurd ((by rw [e18]; exact nI_ge (by omega) (by omega))) h7)) (fun h7 => ?_)
      refine zo_aload_n (i := i_Mo_ageNeighbours) (pc := 10) d_Mo_ageNeighbours_10 rfl rfl ?_
      refine zo_iload_n (i := i_Mo_ageNeighbours) (pc := 11) d_Mo_ageNeighbours_11 rfl ?_
      refine zc_V1 (i := i_Mo_ageNeighbours) (pc := 12) 10 rfl m_Mo_ageNeighbour (ztb_of k_976 rfl) (ztb_of k_978 rfl) s_Mo_ageNeighbour d_Mo_ageNeighbours_12 (Nat.le_of_ble_eq_true rfl) (Nat.le_of_ble_eq_true rfl) (Nat.le_of_ble_eq_true rfl) (Nat.le_of_ble_eq_true rfl) (hs.get (t := 0) rfl) (l_ageNb ⟨_, _, hr, hs⟩ hc ht hx hxv (by show u.1 < _; omega) (fun hg hnq ws hS => ?_) (fun hg ws hS => ?_))
      · rw [hg, if_pos rfl, ndA_w] at hwe
        rw [List.filter_cons_of_neg (by simp [hg])] at hd
        rw [hnq, if_neg (by decide)] at hue
        refine zo_if_eq (i := i_Mo_ageNeighbours) (pc := 15) (tgt := 26) d_Mo_ageNeighbours_15 (by decide) (fun h15 => False.elim (by first | exact absurd h15 ((by decide)) | exact absurd ((by decide)) h15)) (fun h15 => ?_)
        obtain ⟨m, F, hr, hs⟩ := id hS
        refine zo_aload_n (i := i_Mo_ageNeighbours) (pc := 18) d_Mo_ageNeighbours_18 rfl rfl ?_
        refine zo_iload_n (i := i_Mo_ageNeighbours) (pc := 19) d_Mo_ageNeighbours_19 rfl ?_
        refine zc_V1 (i := i_Mo_ageNeighbours) (pc := 20) 10 rfl m_Mo_dropNeighbour (ztb_of k_988 rfl) (ztb_of k_990 rfl) s_Mo_dropNeighbour d_Mo_ageNeighbours_20 (Nat.le_of_ble_eq_true rfl) (Nat.le_of_ble_eq_true rfl) (Nat.le_of_ble_eq_true rfl) (Nat.le_of_ble_eq_true rfl) (hs.get (t := 0) rfl) (l_dropNb hS (by show done.length < (done ++ x :: r).length; rw [List.length_append, List.length_cons]; omega) fun ws hS => ?_)
        refine zo_goto (i := i_Mo_ageNeighbours) (pc := 23) (tgt := 2) d_Mo_ageNeighbours_23 (by decide) ?_
        rw [show (tS (tS (tU (tN q (done ++ x :: r)) u) (lostS q.1 w)) (lostS (tS (tU (tN q (done ++ x :: r)) u) (lostS q.1 w)).1 ((tS (tU (tN q (done ++ x :: r)) u) (lostS q.1 w)).1.2.2.2.1 + zb (!decide (x.2.2.2.2.2 = 0))))).2.2.2.1 = done ++ x :: r from rfl, mid_erase] at hS
        refine ih done u (w + zb (!decide (x.2.2.2.2.2 = 0))) ws hS hd hue ?_ hvr (by omega)
        rw [← hwe, Int32.add_assoc, Int32.add_comm (zb _)]
      · rw [hg, if_neg (by decide)] at hwe
        rw [List.filter_cons_of_pos (by simp [hg]), mid_next] at hd
        obtain ⟨m, F, hr, hs⟩ := hS
        rw [show (tS (tU (tN q (done ++ x :: r)) u) (lostS q.1 w)).2.2.2.1 = done ++ x :: r from rfl, mid_set] at hr
        refine zo_if_eq (i := i_Mo_ageNeighbours) (pc := 15) (tgt := 26) d_Mo_ageNeighbours_15 (by decide) (fun h15 => ?_) (fun h15 => False.elim (by first | exact absurd h15 (rfl) | exact absurd (rfl) h15))
        refine zo_iinc (i := i_Mo_ageNeighbours) (pc := 26) (v := nI (done.length + 1)) d_Mo_ageNeighbours_26 rfl (nI_inc done.length) (Nat.le_of_ble_eq_true rfl) ?_
        refine zo_goto (i := i_Mo_ageNeighbours) (pc := 29) (tgt := 2) d_Mo_ageNeighbours_29 (by decide) ?_
        rw [hn1 (ndA (nI (c + 1)) x)]
        refine ih (done ++ [ndA (nI (c + 1)) x]) _ w ws ⟨_, _, hr, hs⟩ hd hue hwe hvr ?_
        show (if ndQ (nI (c + 1)) x then ouAdd u 2 (askTo (ndA (nI (c + 1)) x)) x.1 else u).1 + r.length < _
        split
        · show u.1 + 1 + r.length < _
          omega
        · omega
  refine zo_iconst (i := i_Mo_ageNeighbours) (pc := 0) (v := 0) d_Mo_ageNeighbours_0 (by decide) ?_
  refine zo_istore_n (i := i_Mo_ageNeighbours) (pc := 1) d_Mo_ageNeighbours_1 (Nat.le_of_ble_eq_true rfl) ?_
  exact loop q.2.2.2.1 [] q.2.1 q.1.2.2.2.1 ws ⟨m, F, hr, hs⟩ rfl rfl rfl hv (by omega)
