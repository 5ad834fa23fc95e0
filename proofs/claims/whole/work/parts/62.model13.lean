/-! The model: the size for an address (walks by a program, gen62.py). -/
theorem c_Mo_sizeFor {g : zG} {ws : va_W} {post : Option Value → va_W → Prop} {B : Nat → Nat} {m : Nat → Int32} {F : Nat → Nat → Int32} {R : va_W} (hs : zHas ws (moW g B m F ++ R)) {n : Nat} {a : Int32} (hm : F 25 2 = nI n) (hn : n ≤ 7) (k0 : ∀ j : Nat, j < n → F 26 (8 * 2 + j) = a → (∀ t, t < j → F 26 (8 * 2 + t) ≠ a) → post (some (.int (if F 28 (8 * 2 + j) ≤ m 4 then F 28 (8 * 2 + j) else m 4))) ws) (k1 : (∀ t, t < n → F 26 (8 * 2 + t) ≠ a) → post (some (.int (m 4))) ws) : zC g i_Mo_sizeFor [.ref (B 0), .int a] ws post := by
  refine zC.intro (by decide +kernel) rfl (Nat.le_of_ble_eq_true rfl) fun x0 hq => ?_
  refine zo_aload_n (i := i_Mo_sizeFor) (pc := 0) d_Mo_sizeFor_0 rfl rfl ?_
  refine zo_iconst (i := i_Mo_sizeFor) (pc := 1) (v := 2) d_Mo_sizeFor_1 (by decide) ?_
  refine zo_iload_n (i := i_Mo_sizeFor) (pc := 2) d_Mo_sizeFor_2 rfl ?_
  refine zc_V2 (i := i_Mo_sizeFor) (pc := 3) 10 rfl m_Mo_entryAt (ztb_of k_1032 rfl) (ztb_of k_1034 rfl) s_Mo_entryAt d_Mo_sizeFor_3 (Nat.le_of_ble_eq_true rfl) (Nat.le_of_ble_eq_true rfl) (Nat.le_of_ble_eq_true rfl) (Nat.le_of_ble_eq_true rfl) (hs.get (t := 0) rfl) (c_Mo_entryAt (c := 2) hs (by decide) hm hn (fun j hj ha hno => ?_) (fun hno => ?_))
  · refine zo_istore_n (i := i_Mo_sizeFor) (pc := 6) d_Mo_sizeFor_6 (Nat.le_of_ble_eq_true rfl) ?_
    refine zo_iload_n (i := i_Mo_sizeFor) (pc := 7) d_Mo_sizeFor_7 rfl ?_
    refine zo_if_lt (i := i_Mo_sizeFor) (pc := 8) (tgt := 24) d_Mo_sizeFor_8 (by decide) (fun h8 => False.elim (by first | exact absurd h8 ((nI_pos (by omega))) | exact absurd ((nI_pos (by omega))) h8)) (fun h8 => ?_)
    refine zo_aload_n (i := i_Mo_sizeFor) (pc := 11) d_Mo_sizeFor_11 rfl rfl ?_
    refine zo_get (i := i_Mo_sizeFor) (pc := 12) 10 28 rfl zok_Mo (Nat.le_of_ble_eq_true rfl) (ztb_of k_886 rfl) d_Mo_sizeFor_12 (fun _ _ _ h => h) (hs.get (t := 0) rfl) rfl ?_
    refine zo_iload_n (i := i_Mo_sizeFor) (pc := 15) d_Mo_sizeFor_15 rfl ?_
    refine zo_iaload (i := i_Mo_sizeFor) (pc := 16) d_Mo_sizeFor_16 (hs.get (t := 18) rfl) (vp_in_nI (by omega) (by decide)) ?_
    refine zo_aload_n (i := i_Mo_sizeFor) (pc := 17) d_Mo_sizeFor_17 rfl rfl ?_
    refine zo_get (i := i_Mo_sizeFor) (pc := 18) 10 4 rfl zok_Mo (Nat.le_of_ble_eq_true rfl) (ztb_of k_862 rfl) d_Mo_sizeFor_18 (fun _ _ _ h => h) (hs.get (t := 0) rfl) rfl ?_
    refine zo_icmp_le (i := i_Mo_sizeFor) (pc := 21) (tgt := 31) d_Mo_sizeFor_21 (by decide) (fun h21 => ?_) (fun h21 => ?_)
    · refine zo_aload_n (i := i_Mo_sizeFor) (pc := 31) d_Mo_sizeFor_31 rfl rfl ?_
      refine zo_get (i := i_Mo_sizeFor) (pc := 32) 10 28 rfl zok_Mo (Nat.le_of_ble_eq_true rfl) (ztb_of k_886 rfl) d_Mo_sizeFor_32 (fun _ _ _ h => h) (hs.get (t := 0) rfl) rfl ?_
      refine zo_iload_n (i := i_Mo_sizeFor) (pc := 35) d_Mo_sizeFor_35 rfl ?_
      refine zo_iaload (i := i_Mo_sizeFor) (pc := 36) d_Mo_sizeFor_36 (hs.get (t := 18) rfl) (vp_in_nI (by omega) (by decide)) ?_
      refine zo_ireturn (i := i_Mo_sizeFor) (pc := 37) hq d_Mo_sizeFor_37 rfl (Nat.le_of_ble_eq_true rfl) (Nat.le_of_ble_eq_true rfl) ?_
      rw [nI_clamp (show 8 * 2 + j < 2 ^ 31 by omega)] at h21
      have kk := k0 j hj ha hno
      rw [if_pos h21] at kk
      rw [nI_clamp (show 8 * 2 + j < 2 ^ 31 by omega)]
      exact kk
    · refine zo_aload_n (i := i_Mo_sizeFor) (pc := 24) d_Mo_sizeFor_24 rfl rfl ?_
      refine zo_get (i := i_Mo_sizeFor) (pc := 25) 10 4 rfl zok_Mo (Nat.le_of_ble_eq_true rfl) (ztb_of k_862 rfl) d_Mo_sizeFor_25 (fun _ _ _ h => h) (hs.get (t := 0) rfl) rfl ?_
      refine zo_goto (i := i_Mo_sizeFor) (pc := 28) (tgt := 37) d_Mo_sizeFor_28 (by decide) ?_
      refine zo_ireturn (i := i_Mo_sizeFor) (pc := 37) hq d_Mo_sizeFor_37 rfl (Nat.le_of_ble_eq_true rfl) (Nat.le_of_ble_eq_true rfl) ?_
      rw [nI_clamp (show 8 * 2 + j < 2 ^ 31 by omega)] at h21
      have kk := k0 j hj ha hno
      rw [if_neg h21] at kk
      exact kk
  · refine zo_istore_n (i := i_Mo_sizeFor) (pc := 6) d_Mo_sizeFor_6 (Nat.le_of_ble_eq_true rfl) ?_
    refine zo_iload_n (i := i_Mo_sizeFor) (pc := 7) d_Mo_sizeFor_7 rfl ?_
    refine zo_if_lt (i := i_Mo_sizeFor) (pc := 8) (tgt := 24) d_Mo_sizeFor_8 (by decide) (fun h8 => ?_) (fun h8 => False.elim (by first | exact absurd h8 ((by decide)) | exact absurd ((by decide)) h8))
    refine zo_aload_n (i := i_Mo_sizeFor) (pc := 24) d_Mo_sizeFor_24 rfl rfl ?_
    refine zo_get (i := i_Mo_sizeFor) (pc := 25) 10 4 rfl zok_Mo (Nat.le_of_ble_eq_true rfl) (ztb_of k_862 rfl) d_Mo_sizeFor_25 (fun _ _ _ h => h) (hs.get (t := 0) rfl) rfl ?_
    refine zo_goto (i := i_Mo_sizeFor) (pc := 28) (tgt := 37) d_Mo_sizeFor_28 (by decide) ?_
    refine zo_ireturn (i := i_Mo_sizeFor) (pc := 37) hq d_Mo_sizeFor_37 rfl (Nat.le_of_ble_eq_true rfl) (Nat.le_of_ble_eq_true rfl) ?_
    exact k1 hno
