/-! The model: entries with an end (walks by a program, gen54.py). -/
theorem m8 : ∀ c : Nat, c < 3 → (8 : Int32) * nI c = nI (8 * c) := by decide +kernel
theorem c_Mo_entryAt {g : zG} {ws : va_W} {post : Option Value → va_W → Prop} {B : Nat → Nat} {m : Nat → Int32} {F : Nat → Nat → Int32} {R : va_W} (hs : zHas ws (moW g B m F ++ R)) {c n : Nat} {a : Int32} (hc : c < 3) (hm : F 25 c = nI n) (hn : n ≤ 7) (k0 : ∀ j : Nat, j < n → F 26 (8 * c + j) = a → (∀ t, t < j → F 26 (8 * c + t) ≠ a) → post (some (.int (nI (8 * c + j)))) ws) (k1 : (∀ t, t < n → F 26 (8 * c + t) ≠ a) → post (some (.int (-1))) ws) : zC g i_Mo_entryAt [.ref (B 0), .int (nI c), .int a] ws post := by
  refine zC.intro (by decide +kernel) rfl (Nat.le_of_ble_eq_true rfl) fun x0 hq => ?_
  have loop : ∀ (d j : Nat), j + d = n → (∀ t, t < j → F 26 (8 * c + t) ≠ a) → zW x0 g i_Mo_entryAt 5 [some (.ref (B 0)), some (.int (nI c)), some (.int a), some (.int (nI (8 * c + j)))] [] ws 0 0 := by
    intro d
    induction d with
    | zero =>
      intro j hj hno
      refine zo_iload_n (i := i_Mo_entryAt) (pc := 5) d_Mo_entryAt_5 rfl ?_
      refine zo_bipush (i := i_Mo_entryAt) (pc := 6) (v := 8) d_Mo_entryAt_6 (by decide) ?_
      refine zo_iload_n (i := i_Mo_entryAt) (pc := 8) d_Mo_entryAt_8 rfl ?_
      refine zo_imul (i := i_Mo_entryAt) (pc := 9) d_Mo_entryAt_9 ?_
      refine zo_aload_n (i := i_Mo_entryAt) (pc := 10) d_Mo_entryAt_10 rfl rfl ?_
      refine zo_get (i := i_Mo_entryAt) (pc := 11) 10 25 rfl zok_Mo (Nat.le_of_ble_eq_true rfl) (ztb_of k_883 rfl) d_Mo_entryAt_11 (fun _ _ _ h => h) (hs.get (t := 0) rfl) rfl ?_
      refine zo_iload_n (i := i_Mo_entryAt) (pc := 14) d_Mo_entryAt_14 rfl ?_
      refine zo_iaload (i := i_Mo_entryAt) (pc := 15) d_Mo_entryAt_15 (hs.get (t := 15) rfl) (vp_in_nI (by omega) (by decide)) ?_
      refine zo_iadd (i := i_Mo_entryAt) (pc := 16) d_Mo_entryAt_16 ?_
      refine zo_icmp_ge (i := i_Mo_entryAt) (pc := 17) (tgt := 38) d_Mo_entryAt_17 (by decide) (fun h17 => ?_) (fun h17 => False.elim (by first | exact absurd h17 ((by rw [m8 c hc, nI_clamp (show c < 2 ^ 31 by omega), hm, nI_add]; exact nI_le (by omega) (by omega))) | exact absurd ((by rw [m8 c hc, nI_clamp (show c < 2 ^ 31 by omega), hm, nI_add]; exact nI_le (by omega) (by omega))) h17))
      refine zo_iconst (i := i_Mo_entryAt) (pc := 38) (v := (-1)) d_Mo_entryAt_38 (by decide) ?_
      refine zo_ireturn (i := i_Mo_entryAt) (pc := 39) hq d_Mo_entryAt_39 rfl (Nat.le_of_ble_eq_true rfl) (Nat.le_of_ble_eq_true rfl) ?_
      exact k1 (fun t ht => hno t (by omega))
    | succ d ih =>
      intro j hj hno
      refine zo_iload_n (i := i_Mo_entryAt) (pc := 5) d_Mo_entryAt_5 rfl ?_
      refine zo_bipush (i := i_Mo_entryAt) (pc := 6) (v := 8) d_Mo_entryAt_6 (by decide) ?_
      refine zo_iload_n (i := i_Mo_entryAt) (pc := 8) d_Mo_entryAt_8 rfl ?_
      refine zo_imul (i := i_Mo_entryAt) (pc := 9) d_Mo_entryAt_9 ?_
      refine zo_aload_n (i := i_Mo_entryAt) (pc := 10) d_Mo_entryAt_10 rfl rfl ?_
      refine zo_get (i := i_Mo_entryAt) (pc := 11) 10 25 rfl zok_Mo (Nat.le_of_ble_eq_true rfl) (ztb_of k_883 rfl) d_Mo_entryAt_11 (fun _ _ _ h => h) (hs.get (t := 0) rfl) rfl ?_
      refine zo_iload_n (i := i_Mo_entryAt) (pc := 14) d_Mo_entryAt_14 rfl ?_
      refine zo_iaload (i := i_Mo_entryAt) (pc := 15) d_Mo_entryAt_15 (hs.get (t := 15) rfl) (vp_in_nI (by omega) (by decide)) ?_
      refine zo_iadd (i := i_Mo_entryAt) (pc := 16) d_Mo_entryAt_16 ?_
      refine zo_icmp_ge (i := i_Mo_entryAt) (pc := 17) (tgt := 38) d_Mo_entryAt_17 (by decide) (fun h17 => False.elim (by first | exact absurd h17 ((by rw [m8 c hc, nI_clamp (show c < 2 ^ 31 by omega), hm, nI_add]; exact nI_ge (by omega) (by omega))) | exact absurd ((by rw [m8 c hc, nI_clamp (show c < 2 ^ 31 by omega), hm, nI_add]; exact nI_ge (by omega) (by omega))) h17)) (fun h17 => ?_)
      refine zo_aload_n (i := i_Mo_entryAt) (pc := 20) d_Mo_entryAt_20 rfl rfl ?_
      refine zo_get (i := i_Mo_entryAt) (pc := 21) 10 26 rfl zok_Mo (Nat.le_of_ble_eq_true rfl) (ztb_of k_884 rfl) d_Mo_entryAt_21 (fun _ _ _ h => h) (hs.get (t := 0) rfl) rfl ?_
      refine zo_iload_n (i := i_Mo_entryAt) (pc := 24) d_Mo_entryAt_24 rfl ?_
      refine zo_iaload (i := i_Mo_entryAt) (pc := 25) d_Mo_entryAt_25 (hs.get (t := 16) rfl) (vp_in_nI (by omega) (by decide)) ?_
      refine zo_iload_n (i := i_Mo_entryAt) (pc := 26) d_Mo_entryAt_26 rfl ?_
      refine zo_icmp_ne (i := i_Mo_entryAt) (pc := 27) (tgt := 32) d_Mo_entryAt_27 (by decide) (fun h27 => ?_) (fun h27 => ?_)
      · refine zo_iinc (i := i_Mo_entryAt) (pc := 32) (v := nI (8 * c + (j + 1))) d_Mo_entryAt_32 rfl (nI_inc (8 * c + j)) (Nat.le_of_ble_eq_true rfl) ?_
        refine zo_goto (i := i_Mo_entryAt) (pc := 35) (tgt := 5) d_Mo_entryAt_35 (by decide) ?_
        rw [nI_clamp (show 8 * c + j < 2 ^ 31 by omega)] at h27
        exact ih (j + 1) (by omega) (fun t ht => by
          by_cases e : t = j
          · rw [e]; exact h27
          · exact hno t (by omega))
      · refine zo_iload_n (i := i_Mo_entryAt) (pc := 30) d_Mo_entryAt_30 rfl ?_
        refine zo_ireturn (i := i_Mo_entryAt) (pc := 31) hq d_Mo_entryAt_31 rfl (Nat.le_of_ble_eq_true rfl) (Nat.le_of_ble_eq_true rfl) ?_
        rw [nI_clamp (show 8 * c + j < 2 ^ 31 by omega)] at h27
        exact k0 j (by omega) h27 hno
  refine zo_bipush (i := i_Mo_entryAt) (pc := 0) (v := 8) d_Mo_entryAt_0 (by decide) ?_
  refine zo_iload_n (i := i_Mo_entryAt) (pc := 2) d_Mo_entryAt_2 rfl ?_
  refine zo_imul (i := i_Mo_entryAt) (pc := 3) d_Mo_entryAt_3 ?_
  refine zo_istore_n (i := i_Mo_entryAt) (pc := 4) d_Mo_entryAt_4 (Nat.le_of_ble_eq_true rfl) ?_
  rw [m8 c hc]
  exact loop n 0 (by omega) (fun t ht => absurd ht (Nat.not_lt_zero t))
theorem c_Mo_dropEntry {g : zG} {ws : va_W} {post : Option Value → va_W → Prop} {B : Nat → Nat} {m : Nat → Int32} {F : Nat → Nat → Int32} {R : va_W} (hs : zHas ws (moW g B m F ++ R)) {c n i : Nat} (hc : c < 3) (hm : F 25 c = nI (n + 1)) (hn : n + 1 ≤ 7) (hi : i ≤ n) (k : ∀ w, zHas w (moW g B m (mup (mup (mup (mup F 25 (upd (F 25) c (nI n))) 26 (shf (F 26) (8 * c + i) (8 * c + n))) 27 (shf (F 27) (8 * c + i) (8 * c + n))) 28 (shf (F 28) (8 * c + i) (8 * c + n))) ++ R) → post none w) : zC g i_Mo_dropEntry [.ref (B 0), .int (nI c), .int (nI (8 * c + i))] ws post := by
  refine zC.intro (by decide +kernel) rfl (Nat.le_of_ble_eq_true rfl) fun x0 hq => ?_
  have e25 : upd (F 25) c (nI n) c = nI n := if_pos rfl
  have loop : ∀ (d j : Nat), j + d = n → i ≤ j → ∀ ws, zHas ws (moW g B m (mup (mup (mup (mup F 25 (upd (F 25) c (nI n))) 26 (shf (F 26) (8 * c + i) (8 * c + j))) 27 (shf (F 27) (8 * c + i) (8 * c + j))) 28 (shf (F 28) (8 * c + i) (8 * c + j))) ++ R) → zW x0 g i_Mo_dropEntry 12 [some (.ref (B 0)), some (.int (nI c)), some (.int (nI (8 * c + i))), some (.int (nI (8 * c + j)))] [] ws 0 0 := by
    intro d
    induction d with
    | zero =>
      intro j hj hij ws hs
      refine zo_iload_n (i := i_Mo_dropEntry) (pc := 12) d_Mo_dropEntry_12 rfl ?_
      refine zo_bipush (i := i_Mo_dropEntry) (pc := 13) (v := 8) d_Mo_dropEntry_13 (by decide) ?_
      refine zo_iload_n (i := i_Mo_dropEntry) (pc := 15) d_Mo_dropEntry_15 rfl ?_
      refine zo_imul (i := i_Mo_dropEntry) (pc := 16) d_Mo_dropEntry_16 ?_
      refine zo_aload_n (i := i_Mo_dropEntry) (pc := 17) d_Mo_dropEntry_17 rfl rfl ?_
      refine zo_get (i := i_Mo_dropEntry) (pc := 18) 10 25 rfl zok_Mo (Nat.le_of_ble_eq_true rfl) (ztb_of k_883 rfl) d_Mo_dropEntry_18 (fun _ _ _ h => h) (hs.get (t := 0) rfl) rfl ?_
      refine zo_iload_n (i := i_Mo_dropEntry) (pc := 21) d_Mo_dropEntry_21 rfl ?_
      refine zo_iaload (i := i_Mo_dropEntry) (pc := 22) d_Mo_dropEntry_22 (hs.get (t := 15) rfl) (vp_in_nI (by omega) (by decide)) ?_
      refine zo_iadd (i := i_Mo_dropEntry) (pc := 23) d_Mo_dropEntry_23 ?_
      refine zo_icmp_ge (i := i_Mo_dropEntry) (pc := 24) (tgt := 75) d_Mo_dropEntry_24 (by decide) (fun h24 => ?_) (fun h24 => False.elim (by first | exact absurd h24 ((by rw [m8 c hc, nI_clamp (show c < 2 ^ 31 by omega)]; show nI (8 * c) + upd (F 25) c (nI n) c ≤ _; rw [e25, nI_add]; exact nI_le (by omega) (by omega))) | exact absurd ((by rw [m8 c hc, nI_clamp (show c < 2 ^ 31 by omega)]; show nI (8 * c) + upd (F 25) c (nI n) c ≤ _; rw [e25, nI_add]; exact nI_le (by omega) (by omega))) h24))
      refine zo_return (i := i_Mo_dropEntry) (pc := 75) hq d_Mo_dropEntry_75 rfl (Nat.le_of_ble_eq_true rfl) (Nat.le_of_ble_eq_true rfl) ?_
      have e : j = n := by omega
      subst e
      exact k ws hs
    | succ d ih =>
      intro j hj hij ws hs
      refine zo_iload_n (i := i_Mo_dropEntry) (pc := 12) d_Mo_dropEntry_12 rfl ?_
      refine zo_bipush (i := i_Mo_dropEntry) (pc := 13) (v := 8) d_Mo_dropEntry_13 (by decide) ?_
      refine zo_iload_n (i := i_Mo_dropEntry) (pc := 15) d_Mo_dropEntry_15 rfl ?_
      refine zo_imul (i := i_Mo_dropEntry) (pc := 16) d_Mo_dropEntry_16 ?_
      refine zo_aload_n (i := i_Mo_dropEntry) (pc := 17) d_Mo_dropEntry_17 rfl rfl ?_
      refine zo_get (i := i_Mo_dropEntry) (pc := 18) 10 25 rfl zok_Mo (Nat.le_of_ble_eq_true rfl) (ztb_of k_883 rfl) d_Mo_dropEntry_18 (fun _ _ _ h => h) (hs.get (t := 0) rfl) rfl ?_
      refine zo_iload_n (i := i_Mo_dropEntry) (pc := 21) d_Mo_dropEntry_21 rfl ?_
      refine zo_iaload (i := i_Mo_dropEntry) (pc := 22) d_Mo_dropEntry_22 (hs.get (t := 15) rfl) (vp_in_nI (by omega) (by decide)) ?_
      refine zo_iadd (i := i_Mo_dropEntry) (pc := 23) d_Mo_dropEntry_23 ?_
      refine zo_icmp_ge (i := i_Mo_dropEntry) (pc := 24) (tgt := 75) d_Mo_dropEntry_24 (by decide) (fun h24 => False.elim (by first | exact absurd h24 ((by rw [m8 c hc, nI_clamp (show c < 2 ^ 31 by omega)]; show ¬ nI (8 * c) + upd (F 25) c (nI n) c ≤ _; rw [e25, nI_add]; exact nI_ge (by omega) (by omega))) | exact absurd ((by rw [m8 c hc, nI_clamp (show c < 2 ^ 31 by omega)]; show ¬ nI (8 * c) + upd (F 25) c (nI n) c ≤ _; rw [e25, nI_add]; exact nI_ge (by omega) (by omega))) h24)) (fun h24 => ?_)
      refine zo_aload_n (i := i_Mo_dropEntry) (pc := 27) d_Mo_dropEntry_27 rfl rfl ?_
      refine zo_get (i := i_Mo_dropEntry) (pc := 28) 10 26 rfl zok_Mo (Nat.le_of_ble_eq_true rfl) (ztb_of k_884 rfl) d_Mo_dropEntry_28 (fun _ _ _ h => h) (hs.get (t := 0) rfl) rfl ?_
      refine zo_iload_n (i := i_Mo_dropEntry) (pc := 31) d_Mo_dropEntry_31 rfl ?_
      refine zo_aload_n (i := i_Mo_dropEntry) (pc := 32) d_Mo_dropEntry_32 rfl rfl ?_
      refine zo_get (i := i_Mo_dropEntry) (pc := 33) 10 26 rfl zok_Mo (Nat.le_of_ble_eq_true rfl) (ztb_of k_884 rfl) d_Mo_dropEntry_33 (fun _ _ _ h => h) (hs.get (t := 0) rfl) rfl ?_
      refine zo_iload_n (i := i_Mo_dropEntry) (pc := 36) d_Mo_dropEntry_36 rfl ?_
      refine zo_iconst (i := i_Mo_dropEntry) (pc := 37) (v := 1) d_Mo_dropEntry_37 (by decide) ?_
      refine zo_iadd (i := i_Mo_dropEntry) (pc := 38) d_Mo_dropEntry_38 ?_
      refine zo_iaload (i := i_Mo_dropEntry) (pc := 39) d_Mo_dropEntry_39 (hs.get (t := 16) rfl) (by rw [nI_1]; exact vp_in_nI (by omega) (by decide)) ?_
      refine zh_iastore (i := i_Mo_dropEntry) (pc := 40) d_Mo_dropEntry_40 hs 16 rfl (vp_in_nI (by omega) (by decide)) fun ws hs => ?_
      refine zo_aload_n (i := i_Mo_dropEntry) (pc := 41) d_Mo_dropEntry_41 rfl rfl ?_
      refine zo_get (i := i_Mo_dropEntry) (pc := 42) 10 27 rfl zok_Mo (Nat.le_of_ble_eq_true rfl) (ztb_of k_885 rfl) d_Mo_dropEntry_42 (fun _ _ _ h => h) (hs.get (t := 0) rfl) rfl ?_
      refine zo_iload_n (i := i_Mo_dropEntry) (pc := 45) d_Mo_dropEntry_45 rfl ?_
      refine zo_aload_n (i := i_Mo_dropEntry) (pc := 46) d_Mo_dropEntry_46 rfl rfl ?_
      refine zo_get (i := i_Mo_dropEntry) (pc := 47) 10 27 rfl zok_Mo (Nat.le_of_ble_eq_true rfl) (ztb_of k_885 rfl) d_Mo_dropEntry_47 (fun _ _ _ h => h) (hs.get (t := 0) rfl) rfl ?_
      refine zo_iload_n (i := i_Mo_dropEntry) (pc := 50) d_Mo_dropEntry_50 rfl ?_
      refine zo_iconst (i := i_Mo_dropEntry) (pc := 51) (v := 1) d_Mo_dropEntry_51 (by decide) ?_
      refine zo_iadd (i := i_Mo_dropEntry) (pc := 52) d_Mo_dropEntry_52 ?_
      refine zo_iaload (i := i_Mo_dropEntry) (pc := 53) d_Mo_dropEntry_53 (hs.get (t := 17) rfl) (by rw [nI_1]; exact vp_in_nI (by omega) (by decide)) ?_
      refine zh_iastore (i := i_Mo_dropEntry) (pc := 54) d_Mo_dropEntry_54 hs 17 rfl (vp_in_nI (by omega) (by decide)) fun ws hs => ?_
      refine zo_aload_n (i := i_Mo_dropEntry) (pc := 55) d_Mo_dropEntry_55 rfl rfl ?_
      refine zo_get (i := i_Mo_dropEntry) (pc := 56) 10 28 rfl zok_Mo (Nat.le_of_ble_eq_true rfl) (ztb_of k_886 rfl) d_Mo_dropEntry_56 (fun _ _ _ h => h) (hs.get (t := 0) rfl) rfl ?_
      refine zo_iload_n (i := i_Mo_dropEntry) (pc := 59) d_Mo_dropEntry_59 rfl ?_
      refine zo_aload_n (i := i_Mo_dropEntry) (pc := 60) d_Mo_dropEntry_60 rfl rfl ?_
      refine zo_get (i := i_Mo_dropEntry) (pc := 61) 10 28 rfl zok_Mo (Nat.le_of_ble_eq_true rfl) (ztb_of k_886 rfl) d_Mo_dropEntry_61 (fun _ _ _ h => h) (hs.get (t := 0) rfl) rfl ?_
      refine zo_iload_n (i := i_Mo_dropEntry) (pc := 64) d_Mo_dropEntry_64 rfl ?_
      refine zo_iconst (i := i_Mo_dropEntry) (pc := 65) (v := 1) d_Mo_dropEntry_65 (by decide) ?_
      refine zo_iadd (i := i_Mo_dropEntry) (pc := 66) d_Mo_dropEntry_66 ?_
      refine zo_iaload (i := i_Mo_dropEntry) (pc := 67) d_Mo_dropEntry_67 (hs.get (t := 18) rfl) (by rw [nI_1]; exact vp_in_nI (by omega) (by decide)) ?_
      refine zh_iastore (i := i_Mo_dropEntry) (pc := 68) d_Mo_dropEntry_68 hs 18 rfl (vp_in_nI (by omega) (by decide)) fun ws hs => ?_
      refine zo_iinc (i := i_Mo_dropEntry) (pc := 69) (v := nI (8 * c + (j + 1))) d_Mo_dropEntry_69 rfl (nI_inc (8 * c + j)) (Nat.le_of_ble_eq_true rfl) ?_
      refine zo_goto (i := i_Mo_dropEntry) (pc := 72) (tgt := 12) d_Mo_dropEntry_72 (by decide) ?_
      replace hs : zHas ws (moW g B m (mup (mup (mup (mup F 25 (upd (F 25) c (nI n))) 26 (upd (shf (F 26) (8 * c + i) (8 * c + j)) (nI (8 * c + j)).toNatClampNeg (shf (F 26) (8 * c + i) (8 * c + j) (nI (8 * c + j) + 1).toNatClampNeg))) 27 (upd (shf (F 27) (8 * c + i) (8 * c + j)) (nI (8 * c + j)).toNatClampNeg (shf (F 27) (8 * c + i) (8 * c + j) (nI (8 * c + j) + 1).toNatClampNeg))) 28 (upd (shf (F 28) (8 * c + i) (8 * c + j)) (nI (8 * c + j)).toNatClampNeg (shf (F 28) (8 * c + i) (8 * c + j) (nI (8 * c + j) + 1).toNatClampNeg))) ++ R) := hs
      simp only [nI_1, nI_clamp (show 8 * c + j < 2 ^ 31 by omega), nI_clamp (show 8 * c + j + 1 < 2 ^ 31 by omega), shf_step (show 8 * c + i ≤ 8 * c + j by omega)] at hs
      exact ih (j + 1) (by omega) (by omega) ws hs
  refine zo_aload_n (i := i_Mo_dropEntry) (pc := 0) d_Mo_dropEntry_0 rfl rfl ?_
  refine zo_get (i := i_Mo_dropEntry) (pc := 1) 10 25 rfl zok_Mo (Nat.le_of_ble_eq_true rfl) (ztb_of k_883 rfl) d_Mo_dropEntry_1 (fun _ _ _ h => h) (hs.get (t := 0) rfl) rfl ?_
  refine zo_iload_n (i := i_Mo_dropEntry) (pc := 4) d_Mo_dropEntry_4 rfl ?_
  refine zo_dup2 (i := i_Mo_dropEntry) (pc := 5) d_Mo_dropEntry_5 rfl rfl ?_
  refine zo_iaload (i := i_Mo_dropEntry) (pc := 6) d_Mo_dropEntry_6 (hs.get (t := 15) rfl) (vp_in_nI (by omega) (by decide)) ?_
  refine zo_iconst (i := i_Mo_dropEntry) (pc := 7) (v := 1) d_Mo_dropEntry_7 (by decide) ?_
  refine zo_isub (i := i_Mo_dropEntry) (pc := 8) d_Mo_dropEntry_8 ?_
  refine zh_iastore (i := i_Mo_dropEntry) (pc := 9) d_Mo_dropEntry_9 hs 15 rfl (vp_in_nI (by omega) (by decide)) fun ws hs => ?_
  refine zo_iload_n (i := i_Mo_dropEntry) (pc := 10) d_Mo_dropEntry_10 rfl ?_
  refine zo_istore_n (i := i_Mo_dropEntry) (pc := 11) d_Mo_dropEntry_11 (Nat.le_of_ble_eq_true rfl) ?_
  replace hs : zHas ws (moW g B m (mup F 25 (upd (F 25) (nI c).toNatClampNeg (F 25 (nI c).toNatClampNeg - 1))) ++ R) := hs
  rw [nI_clamp (show c < 2 ^ 31 by omega), hm, nI_pred] at hs
  exact loop (n - i) i (by omega) (Nat.le_refl i) ws (by simp only [shf_0]; exact hs.eq rfl)
