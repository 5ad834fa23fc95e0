/-! The model: addresses, states, forming, asking (walks by a program, gen52.py). -/
theorem c_Mo_isAddress {g : zG} {ws : va_W} {post : Option Value → va_W → Prop} {o : Nat} {a : Int32} (k : post (some (.int (zb (zaddr a)))) ws) : zC g i_Mo_isAddress [.ref o, .int a] ws post := by
  refine zC.intro (by decide +kernel) rfl (Nat.le_of_ble_eq_true rfl) fun x0 hq => ?_
  refine zo_iload_n (i := i_Mo_isAddress) (pc := 0) d_Mo_isAddress_0 rfl ?_
  refine zo_if_lt (i := i_Mo_isAddress) (pc := 1) (tgt := 54) d_Mo_isAddress_1 (by decide) (fun h1 => ?_) (fun h1 => ?_)
  · refine zo_iconst (i := i_Mo_isAddress) (pc := 54) (v := 0) d_Mo_isAddress_54 (by decide) ?_
    refine zo_zreturn (i := i_Mo_isAddress) (pc := 55) hq d_Mo_isAddress_55 rfl rfl (Nat.le_of_ble_eq_true rfl) (Nat.le_of_ble_eq_true rfl) ?_
    rw [show zaddr a = false by cases e : zaddr a with
      | false => rfl
      | true => exact absurd h1 (zaddr_range e).1] at k
    exact k
  · refine zo_iload_n (i := i_Mo_isAddress) (pc := 4) d_Mo_isAddress_4 rfl ?_
    refine zo_ldc (i := i_Mo_isAddress) (pc := 5) d_Mo_isAddress_5 (ztb_of k_1060 rfl) ?_
    refine zo_icmp_ge (i := i_Mo_isAddress) (pc := 7) (tgt := 54) d_Mo_isAddress_7 (by decide) (fun h7 => ?_) (fun h7 => ?_)
    · refine zo_iconst (i := i_Mo_isAddress) (pc := 54) (v := 0) d_Mo_isAddress_54 (by decide) ?_
      refine zo_zreturn (i := i_Mo_isAddress) (pc := 55) hq d_Mo_isAddress_55 rfl rfl (Nat.le_of_ble_eq_true rfl) (Nat.le_of_ble_eq_true rfl) ?_
      rw [show zaddr a = false by cases e : zaddr a with
        | false => rfl
        | true => exact absurd h7 (zaddr_range e).2] at k
      exact k
    · refine zo_iload_n (i := i_Mo_isAddress) (pc := 10) d_Mo_isAddress_10 rfl ?_
      refine zo_sipush (i := i_Mo_isAddress) (pc := 11) (v := 256) d_Mo_isAddress_11 (by decide) ?_
      refine zo_idiv (i := i_Mo_isAddress) (pc := 14) d_Mo_isAddress_14 (by decide) ?_
      refine zo_iconst (i := i_Mo_isAddress) (pc := 15) (v := 1) d_Mo_isAddress_15 (by decide) ?_
      refine zo_icmp_lt (i := i_Mo_isAddress) (pc := 16) (tgt := 54) d_Mo_isAddress_16 (by decide) (fun h16 => ?_) (fun h16 => ?_)
      · refine zo_iconst (i := i_Mo_isAddress) (pc := 54) (v := 0) d_Mo_isAddress_54 (by decide) ?_
        refine zo_zreturn (i := i_Mo_isAddress) (pc := 55) hq d_Mo_isAddress_55 rfl rfl (Nat.le_of_ble_eq_true rfl) (Nat.le_of_ble_eq_true rfl) ?_
        simp [zaddr, zwithin, h16, zb] at k
        exact k
      · refine zo_iload_n (i := i_Mo_isAddress) (pc := 19) d_Mo_isAddress_19 rfl ?_
        refine zo_sipush (i := i_Mo_isAddress) (pc := 20) (v := 256) d_Mo_isAddress_20 (by decide) ?_
        refine zo_idiv (i := i_Mo_isAddress) (pc := 23) d_Mo_isAddress_23 (by decide) ?_
        refine zo_sipush (i := i_Mo_isAddress) (pc := 24) (v := 250) d_Mo_isAddress_24 (by decide) ?_
        refine zo_icmp_gt (i := i_Mo_isAddress) (pc := 27) (tgt := 54) d_Mo_isAddress_27 (by decide) (fun h27 => ?_) (fun h27 => ?_)
        · refine zo_iconst (i := i_Mo_isAddress) (pc := 54) (v := 0) d_Mo_isAddress_54 (by decide) ?_
          refine zo_zreturn (i := i_Mo_isAddress) (pc := 55) hq d_Mo_isAddress_55 rfl rfl (Nat.le_of_ble_eq_true rfl) (Nat.le_of_ble_eq_true rfl) ?_
          simp [zaddr, zwithin, h16, h27, zb] at k
          exact k
        · refine zo_iload_n (i := i_Mo_isAddress) (pc := 30) d_Mo_isAddress_30 rfl ?_
          refine zo_sipush (i := i_Mo_isAddress) (pc := 31) (v := 256) d_Mo_isAddress_31 (by decide) ?_
          refine zo_irem (i := i_Mo_isAddress) (pc := 34) d_Mo_isAddress_34 (by decide) ?_
          refine zo_iconst (i := i_Mo_isAddress) (pc := 35) (v := 1) d_Mo_isAddress_35 (by decide) ?_
          refine zo_icmp_lt (i := i_Mo_isAddress) (pc := 36) (tgt := 54) d_Mo_isAddress_36 (by decide) (fun h36 => ?_) (fun h36 => ?_)
          · refine zo_iconst (i := i_Mo_isAddress) (pc := 54) (v := 0) d_Mo_isAddress_54 (by decide) ?_
            refine zo_zreturn (i := i_Mo_isAddress) (pc := 55) hq d_Mo_isAddress_55 rfl rfl (Nat.le_of_ble_eq_true rfl) (Nat.le_of_ble_eq_true rfl) ?_
            simp [zaddr, zwithin, h16, h27, h36, zb] at k
            exact k
          · refine zo_iload_n (i := i_Mo_isAddress) (pc := 39) d_Mo_isAddress_39 rfl ?_
            refine zo_sipush (i := i_Mo_isAddress) (pc := 40) (v := 256) d_Mo_isAddress_40 (by decide) ?_
            refine zo_irem (i := i_Mo_isAddress) (pc := 43) d_Mo_isAddress_43 (by decide) ?_
            refine zo_sipush (i := i_Mo_isAddress) (pc := 44) (v := 254) d_Mo_isAddress_44 (by decide) ?_
            refine zo_icmp_gt (i := i_Mo_isAddress) (pc := 47) (tgt := 54) d_Mo_isAddress_47 (by decide) (fun h47 => ?_) (fun h47 => ?_)
            · refine zo_iconst (i := i_Mo_isAddress) (pc := 54) (v := 0) d_Mo_isAddress_54 (by decide) ?_
              refine zo_zreturn (i := i_Mo_isAddress) (pc := 55) hq d_Mo_isAddress_55 rfl rfl (Nat.le_of_ble_eq_true rfl) (Nat.le_of_ble_eq_true rfl) ?_
              simp [zaddr, zwithin, h16, h27, h36, h47, zb] at k
              exact k
            · refine zo_iconst (i := i_Mo_isAddress) (pc := 50) (v := 1) d_Mo_isAddress_50 (by decide) ?_
              refine zo_goto (i := i_Mo_isAddress) (pc := 51) (tgt := 55) d_Mo_isAddress_51 (by decide) ?_
              refine zo_zreturn (i := i_Mo_isAddress) (pc := 55) hq d_Mo_isAddress_55 rfl rfl (Nat.le_of_ble_eq_true rfl) (Nat.le_of_ble_eq_true rfl) ?_
              simp [zaddr, zwithin, h16, h27, h36, h47, zb] at k
              exact k
theorem c_Mo_usable {g : zG} {ws : va_W} {post : Option Value → va_W → Prop} {B : Nat → Nat} {m : Nat → Int32} {F : Nat → Nat → Int32} {R : va_W} (hs : zHas ws (moW g B m F ++ R)) {j : Nat} (hj : j < 6) (k : post (some (.int (zb (zusable (F 14 j))))) ws) : zC g i_Mo_usable [.ref (B 0), .int (nI j)] ws post := by
  refine zC.intro (by decide +kernel) rfl (Nat.le_of_ble_eq_true rfl) fun x0 hq => ?_
  refine zo_iload_n (i := i_Mo_usable) (pc := 0) d_Mo_usable_0 rfl ?_
  refine zo_if_lt (i := i_Mo_usable) (pc := 1) (tgt := 28) d_Mo_usable_1 (by decide) (fun h1 => False.elim (by first | exact absurd h1 ((nI_pos (by omega))) | exact absurd ((nI_pos (by omega))) h1)) (fun h1 => ?_)
  refine zo_aload_n (i := i_Mo_usable) (pc := 4) d_Mo_usable_4 rfl rfl ?_
  refine zo_get (i := i_Mo_usable) (pc := 5) 10 14 rfl zok_Mo (Nat.le_of_ble_eq_true rfl) (ztb_of k_872 rfl) d_Mo_usable_5 (fun _ _ _ h => h) (hs.get (t := 0) rfl) rfl ?_
  refine zo_iload_n (i := i_Mo_usable) (pc := 8) d_Mo_usable_8 rfl ?_
  refine zo_iaload (i := i_Mo_usable) (pc := 9) d_Mo_usable_9 (hs.get (t := 5) rfl) (vp_in_nI (by omega) (by decide)) ?_
  refine zo_iconst (i := i_Mo_usable) (pc := 10) (v := 2) d_Mo_usable_10 (by decide) ?_
  refine zo_icmp_eq (i := i_Mo_usable) (pc := 11) (tgt := 24) d_Mo_usable_11 (by decide) (fun h11 => ?_) (fun h11 => ?_)
  · refine zo_iconst (i := i_Mo_usable) (pc := 24) (v := 1) d_Mo_usable_24 (by decide) ?_
    refine zo_goto (i := i_Mo_usable) (pc := 25) (tgt := 29) d_Mo_usable_25 (by decide) ?_
    refine zo_zreturn (i := i_Mo_usable) (pc := 29) hq d_Mo_usable_29 rfl rfl (Nat.le_of_ble_eq_true rfl) (Nat.le_of_ble_eq_true rfl) ?_
    rw [nI_clamp (show j < 2 ^ 31 by omega)] at *
    simp [zusable, h11, zb] at k
    exact k
  · refine zo_aload_n (i := i_Mo_usable) (pc := 14) d_Mo_usable_14 rfl rfl ?_
    refine zo_get (i := i_Mo_usable) (pc := 15) 10 14 rfl zok_Mo (Nat.le_of_ble_eq_true rfl) (ztb_of k_872 rfl) d_Mo_usable_15 (fun _ _ _ h => h) (hs.get (t := 0) rfl) rfl ?_
    refine zo_iload_n (i := i_Mo_usable) (pc := 18) d_Mo_usable_18 rfl ?_
    refine zo_iaload (i := i_Mo_usable) (pc := 19) d_Mo_usable_19 (hs.get (t := 5) rfl) (vp_in_nI (by omega) (by decide)) ?_
    refine zo_iconst (i := i_Mo_usable) (pc := 20) (v := 3) d_Mo_usable_20 (by decide) ?_
    refine zo_icmp_ne (i := i_Mo_usable) (pc := 21) (tgt := 28) d_Mo_usable_21 (by decide) (fun h21 => ?_) (fun h21 => ?_)
    · refine zo_iconst (i := i_Mo_usable) (pc := 28) (v := 0) d_Mo_usable_28 (by decide) ?_
      refine zo_zreturn (i := i_Mo_usable) (pc := 29) hq d_Mo_usable_29 rfl rfl (Nat.le_of_ble_eq_true rfl) (Nat.le_of_ble_eq_true rfl) ?_
      rw [nI_clamp (show j < 2 ^ 31 by omega)] at *
      simp [zusable, h11, h21, zb] at k
      exact k
    · refine zo_iconst (i := i_Mo_usable) (pc := 24) (v := 1) d_Mo_usable_24 (by decide) ?_
      refine zo_goto (i := i_Mo_usable) (pc := 25) (tgt := 29) d_Mo_usable_25 (by decide) ?_
      refine zo_zreturn (i := i_Mo_usable) (pc := 29) hq d_Mo_usable_29 rfl rfl (Nat.le_of_ble_eq_true rfl) (Nat.le_of_ble_eq_true rfl) ?_
      rw [nI_clamp (show j < 2 ^ 31 by omega)] at *
      simp [zusable, h11, h21, zb] at k
      exact k
theorem c_Mo_usableN {g : zG} {ws : va_W} {post : Option Value → va_W → Prop} {o : Nat} {j : Int32} (hj : j < 0) (k : post (some (.int (0))) ws) : zC g i_Mo_usable [.ref o, .int j] ws post := by
  refine zC.intro (by decide +kernel) rfl (Nat.le_of_ble_eq_true rfl) fun x0 hq => ?_
  refine zo_iload_n (i := i_Mo_usable) (pc := 0) d_Mo_usable_0 rfl ?_
  refine zo_if_lt (i := i_Mo_usable) (pc := 1) (tgt := 28) d_Mo_usable_1 (by decide) (fun h1 => ?_) (fun h1 => False.elim (by first | exact absurd h1 (hj) | exact absurd (hj) h1))
  refine zo_iconst (i := i_Mo_usable) (pc := 28) (v := 0) d_Mo_usable_28 (by decide) ?_
  refine zo_zreturn (i := i_Mo_usable) (pc := 29) hq d_Mo_usable_29 rfl rfl (Nat.le_of_ble_eq_true rfl) (Nat.le_of_ble_eq_true rfl) ?_
  exact k
theorem c_Mo_turn {g : zG} {ws : va_W} {post : Option Value → va_W → Prop} {B : Nat → Nat} {m : Nat → Int32} {F : Nat → Nat → Int32} {R : va_W} (hs : zHas ws (moW g B m F ++ R)) {j : Nat} {s : Int32} (hj : j < 7) (k : ∀ w, zHas w (moW g B m (mup (mup F 22 (upd (F 22) j s)) 23 (upd (F 23) j (m 2))) ++ R) → post none w) : zC g i_Mo_turn [.ref (B 0), .int (nI j), .int s] ws post := by
  refine zC.intro (by decide +kernel) rfl (Nat.le_of_ble_eq_true rfl) fun x0 hq => ?_
  refine zo_aload_n (i := i_Mo_turn) (pc := 0) d_Mo_turn_0 rfl rfl ?_
  refine zo_get (i := i_Mo_turn) (pc := 1) 10 22 rfl zok_Mo (Nat.le_of_ble_eq_true rfl) (ztb_of k_880 rfl) d_Mo_turn_1 (fun _ _ _ h => h) (hs.get (t := 0) rfl) rfl ?_
  refine zo_iload_n (i := i_Mo_turn) (pc := 4) d_Mo_turn_4 rfl ?_
  refine zo_iload_n (i := i_Mo_turn) (pc := 5) d_Mo_turn_5 rfl ?_
  refine zh_iastore (i := i_Mo_turn) (pc := 6) d_Mo_turn_6 hs 12 rfl (vp_in_nI (by omega) (by decide)) fun ws hs => ?_
  refine zo_aload_n (i := i_Mo_turn) (pc := 7) d_Mo_turn_7 rfl rfl ?_
  refine zo_get (i := i_Mo_turn) (pc := 8) 10 23 rfl zok_Mo (Nat.le_of_ble_eq_true rfl) (ztb_of k_881 rfl) d_Mo_turn_8 (fun _ _ _ h => h) (hs.get (t := 0) rfl) rfl ?_
  refine zo_iload_n (i := i_Mo_turn) (pc := 11) d_Mo_turn_11 rfl ?_
  refine zo_aload_n (i := i_Mo_turn) (pc := 12) d_Mo_turn_12 rfl rfl ?_
  refine zo_get (i := i_Mo_turn) (pc := 13) 10 2 rfl zok_Mo (Nat.le_of_ble_eq_true rfl) (ztb_of k_860 rfl) d_Mo_turn_13 (fun _ _ _ h => h) (hs.get (t := 0) rfl) rfl ?_
  refine zh_iastore (i := i_Mo_turn) (pc := 16) d_Mo_turn_16 hs 13 rfl (vp_in_nI (by omega) (by decide)) fun ws hs => ?_
  refine zo_return (i := i_Mo_turn) (pc := 17) hq d_Mo_turn_17 rfl (Nat.le_of_ble_eq_true rfl) (Nat.le_of_ble_eq_true rfl) ?_
  replace hs : zHas ws (moW g B m (mup (mup F 22 (upd (F 22) j s)) 23 (upd (F 23) j (m 2))) ++ R) := hs.eq (by
    simp only [nI_clamp (show j < 2 ^ 31 by omega)]
    rfl)
  exact k ws hs
theorem c_Mo_ask {g : zG} {ws : va_W} {post : Option Value → va_W → Prop} {B : Nat → Nat} {m : Nat → Int32} {F : Nat → Nat → Int32} {R : va_W} (hs : zHas ws (moW g B m F ++ R)) {j s : Nat} (hj : j < 7) (hm : m 8 = nI s) (h8 : s < 2147483648) (k : ∀ w, zHas w (moW g B (mup m 8 (nI (s + 1))) (mup (mup (mup F 9 (upd (F 9) (s % 12) (2))) 10 (upd (F 10) (s % 12) (if F 22 j = 1 then 65535 else F 19 j))) 11 (upd (F 11) (s % 12) (F 19 j))) ++ R) → post none w) : zC g i_Mo_ask [.ref (B 0), .int (nI j)] ws post := by
  refine zC.intro (by decide +kernel) rfl (Nat.le_of_ble_eq_true rfl) fun x0 hq => ?_
  refine zo_aload_n (i := i_Mo_ask) (pc := 0) d_Mo_ask_0 rfl rfl ?_
  refine zo_iconst (i := i_Mo_ask) (pc := 1) (v := 2) d_Mo_ask_1 (by decide) ?_
  refine zo_aload_n (i := i_Mo_ask) (pc := 2) d_Mo_ask_2 rfl rfl ?_
  refine zo_get (i := i_Mo_ask) (pc := 3) 10 22 rfl zok_Mo (Nat.le_of_ble_eq_true rfl) (ztb_of k_880 rfl) d_Mo_ask_3 (fun _ _ _ h => h) (hs.get (t := 0) rfl) rfl ?_
  refine zo_iload_n (i := i_Mo_ask) (pc := 6) d_Mo_ask_6 rfl ?_
  refine zo_iaload (i := i_Mo_ask) (pc := 7) d_Mo_ask_7 (hs.get (t := 12) rfl) (vp_in_nI (by omega) (by decide)) ?_
  refine zo_iconst (i := i_Mo_ask) (pc := 8) (v := 1) d_Mo_ask_8 (by decide) ?_
  refine zo_icmp_ne (i := i_Mo_ask) (pc := 9) (tgt := 17) d_Mo_ask_9 (by decide) (fun h9 => ?_) (fun h9 => ?_)
  · refine zo_aload_n (i := i_Mo_ask) (pc := 17) d_Mo_ask_17 rfl rfl ?_
    refine zo_get (i := i_Mo_ask) (pc := 18) 10 19 rfl zok_Mo (Nat.le_of_ble_eq_true rfl) (ztb_of k_877 rfl) d_Mo_ask_18 (fun _ _ _ h => h) (hs.get (t := 0) rfl) rfl ?_
    refine zo_iload_n (i := i_Mo_ask) (pc := 21) d_Mo_ask_21 rfl ?_
    refine zo_iaload (i := i_Mo_ask) (pc := 22) d_Mo_ask_22 (hs.get (t := 9) rfl) (vp_in_nI (by omega) (by decide)) ?_
    refine zo_aload_n (i := i_Mo_ask) (pc := 23) d_Mo_ask_23 rfl rfl ?_
    refine zo_get (i := i_Mo_ask) (pc := 24) 10 19 rfl zok_Mo (Nat.le_of_ble_eq_true rfl) (ztb_of k_877 rfl) d_Mo_ask_24 (fun _ _ _ h => h) (hs.get (t := 0) rfl) rfl ?_
    refine zo_iload_n (i := i_Mo_ask) (pc := 27) d_Mo_ask_27 rfl ?_
    refine zo_iaload (i := i_Mo_ask) (pc := 28) d_Mo_ask_28 (hs.get (t := 9) rfl) (vp_in_nI (by omega) (by decide)) ?_
    refine zc_V3 (i := i_Mo_ask) (pc := 29) 10 rfl m_Mo_out (ztb_of k_854 rfl) (ztb_of k_856 rfl) s_Mo_out d_Mo_ask_29 (Nat.le_of_ble_eq_true rfl) (Nat.le_of_ble_eq_true rfl) (Nat.le_of_ble_eq_true rfl) (Nat.le_of_ble_eq_true rfl) (hs.get (t := 0) rfl) (c_Mo_out hs hm h8 fun ws hs => ?_)
    refine zo_return (i := i_Mo_ask) (pc := 32) hq d_Mo_ask_32 rfl (Nat.le_of_ble_eq_true rfl) (Nat.le_of_ble_eq_true rfl) ?_
    rw [nI_clamp (show j < 2 ^ 31 by omega)] at *
    rw [if_neg h9] at k
    exact k ws hs
  · refine zo_ldc (i := i_Mo_ask) (pc := 12) d_Mo_ask_12 (ztb_of k_853 rfl) ?_
    refine zo_goto (i := i_Mo_ask) (pc := 14) (tgt := 23) d_Mo_ask_14 (by decide) ?_
    refine zo_aload_n (i := i_Mo_ask) (pc := 23) d_Mo_ask_23 rfl rfl ?_
    refine zo_get (i := i_Mo_ask) (pc := 24) 10 19 rfl zok_Mo (Nat.le_of_ble_eq_true rfl) (ztb_of k_877 rfl) d_Mo_ask_24 (fun _ _ _ h => h) (hs.get (t := 0) rfl) rfl ?_
    refine zo_iload_n (i := i_Mo_ask) (pc := 27) d_Mo_ask_27 rfl ?_
    refine zo_iaload (i := i_Mo_ask) (pc := 28) d_Mo_ask_28 (hs.get (t := 9) rfl) (vp_in_nI (by omega) (by decide)) ?_
    refine zc_V3 (i := i_Mo_ask) (pc := 29) 10 rfl m_Mo_out (ztb_of k_854 rfl) (ztb_of k_856 rfl) s_Mo_out d_Mo_ask_29 (Nat.le_of_ble_eq_true rfl) (Nat.le_of_ble_eq_true rfl) (Nat.le_of_ble_eq_true rfl) (Nat.le_of_ble_eq_true rfl) (hs.get (t := 0) rfl) (c_Mo_out hs hm h8 fun ws hs => ?_)
    refine zo_return (i := i_Mo_ask) (pc := 32) hq d_Mo_ask_32 rfl (Nat.le_of_ble_eq_true rfl) (Nat.le_of_ble_eq_true rfl) ?_
    rw [nI_clamp (show j < 2 ^ 31 by omega)] at *
    rw [if_pos h9] at k
    exact k ws hs
