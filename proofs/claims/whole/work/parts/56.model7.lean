/-! The model: leaving an entry, sending to a neighbour (walks by a program, gen56.py). -/
theorem c_Mo_leave {g : zG} {ws : va_W} {post : Option Value → va_W → Prop} {B : Nat → Nat} {m : Nat → Int32} {F : Nat → Nat → Int32} {R : va_W} (hs : zHas ws (moW g B m F ++ R)) {c n : Nat} {a : Int32} (hc : c < 3) (hm : F 25 c = nI n) (hn : n ≤ 7) (k0 : ∀ n1 j : Nat, n = n1 + 1 → j < n → F 26 (8 * c + j) = a → (∀ t, t < j → F 26 (8 * c + t) ≠ a) → ∀ w, zHas w (moW g B m (mup (mup (mup (mup F 25 (upd (F 25) c (nI n1))) 26 (shf (F 26) (8 * c + j) (8 * c + n1))) 27 (shf (F 27) (8 * c + j) (8 * c + n1))) 28 (shf (F 28) (8 * c + j) (8 * c + n1))) ++ R) → post none w) (k1 : (∀ t, t < n → F 26 (8 * c + t) ≠ a) → post none ws) : zC g i_Mo_leave [.ref (B 0), .int (nI c), .int a] ws post := by
  refine zC.intro (by decide +kernel) rfl (Nat.le_of_ble_eq_true rfl) fun x0 hq => ?_
  refine zo_aload_n (i := i_Mo_leave) (pc := 0) d_Mo_leave_0 rfl rfl ?_
  refine zo_iload_n (i := i_Mo_leave) (pc := 1) d_Mo_leave_1 rfl ?_
  refine zo_iload_n (i := i_Mo_leave) (pc := 2) d_Mo_leave_2 rfl ?_
  refine zc_V2 (i := i_Mo_leave) (pc := 3) 10 rfl m_Mo_entryAt (ztb_of k_1032 rfl) (ztb_of k_1034 rfl) s_Mo_entryAt d_Mo_leave_3 (Nat.le_of_ble_eq_true rfl) (Nat.le_of_ble_eq_true rfl) (Nat.le_of_ble_eq_true rfl) (Nat.le_of_ble_eq_true rfl) (hs.get (t := 0) rfl) (c_Mo_entryAt hs hc hm hn (fun j hj ha hno => ?_) (fun hno => ?_))
  · obtain ⟨n1, rfl⟩ : ∃ n1, n = n1 + 1 := ⟨n - 1, by omega⟩
    refine zo_istore_n (i := i_Mo_leave) (pc := 6) d_Mo_leave_6 (Nat.le_of_ble_eq_true rfl) ?_
    refine zo_iload_n (i := i_Mo_leave) (pc := 7) d_Mo_leave_7 rfl ?_
    refine zo_if_lt (i := i_Mo_leave) (pc := 8) (tgt := 17) d_Mo_leave_8 (by decide) (fun h8 => False.elim (by first | exact absurd h8 ((nI_pos (by omega))) | exact absurd ((nI_pos (by omega))) h8)) (fun h8 => ?_)
    refine zo_aload_n (i := i_Mo_leave) (pc := 11) d_Mo_leave_11 rfl rfl ?_
    refine zo_iload_n (i := i_Mo_leave) (pc := 12) d_Mo_leave_12 rfl ?_
    refine zo_iload_n (i := i_Mo_leave) (pc := 13) d_Mo_leave_13 rfl ?_
    refine zc_V2 (i := i_Mo_leave) (pc := 14) 10 rfl m_Mo_dropEntry (ztb_of k_996 rfl) (ztb_of k_998 rfl) s_Mo_dropEntry d_Mo_leave_14 (Nat.le_of_ble_eq_true rfl) (Nat.le_of_ble_eq_true rfl) (Nat.le_of_ble_eq_true rfl) (Nat.le_of_ble_eq_true rfl) (hs.get (t := 0) rfl) (c_Mo_dropEntry hs hc hm hn (by omega) fun ws hs => ?_)
    refine zo_return (i := i_Mo_leave) (pc := 17) hq d_Mo_leave_17 rfl (Nat.le_of_ble_eq_true rfl) (Nat.le_of_ble_eq_true rfl) ?_
    exact k0 n1 j rfl hj ha hno ws hs
  · refine zo_istore_n (i := i_Mo_leave) (pc := 6) d_Mo_leave_6 (Nat.le_of_ble_eq_true rfl) ?_
    refine zo_iload_n (i := i_Mo_leave) (pc := 7) d_Mo_leave_7 rfl ?_
    refine zo_if_lt (i := i_Mo_leave) (pc := 8) (tgt := 17) d_Mo_leave_8 (by decide) (fun h8 => ?_) (fun h8 => False.elim (by first | exact absurd h8 ((by decide)) | exact absurd ((by decide)) h8))
    refine zo_return (i := i_Mo_leave) (pc := 17) hq d_Mo_leave_17 rfl (Nat.le_of_ble_eq_true rfl) (Nat.le_of_ble_eq_true rfl) ?_
    exact k1 hno
theorem c_Mo_sendTo {g : zG} {ws : va_W} {post : Option Value → va_W → Prop} {B : Nat → Nat} {m : Nat → Int32} {F : Nat → Nat → Int32} {R : va_W} (hs : zHas ws (moW g B m F ++ R)) {j s : Nat} {x : Int32} (hj : j < 7) (hm : m 8 = nI s) (h8 : s < 2147483648) (k0 : F 22 j = 3 → ∀ w, zHas w (moW g B (mup m 8 (nI (s + 1))) (mup (mup (mup (mup (mup F 9 (upd (F 9) (s % 12) 4)) 10 (upd (F 10) (s % 12) (F 19 j))) 11 (upd (F 11) (s % 12) x)) 22 (upd (F 22) j 4)) 23 (upd (F 23) j (m 2))) ++ R) → post none w) (k1 : ¬ F 22 j = 3 → ∀ w, zHas w (moW g B (mup m 8 (nI (s + 1))) (mup (mup (mup F 9 (upd (F 9) (s % 12) 4)) 10 (upd (F 10) (s % 12) (F 19 j))) 11 (upd (F 11) (s % 12) x)) ++ R) → post none w) : zC g i_Mo_sendTo [.ref (B 0), .int (nI j), .int x] ws post := by
  refine zC.intro (by decide +kernel) rfl (Nat.le_of_ble_eq_true rfl) fun x0 hq => ?_
  refine zo_aload_n (i := i_Mo_sendTo) (pc := 0) d_Mo_sendTo_0 rfl rfl ?_
  refine zo_iconst (i := i_Mo_sendTo) (pc := 1) (v := 4) d_Mo_sendTo_1 (by decide) ?_
  refine zo_aload_n (i := i_Mo_sendTo) (pc := 2) d_Mo_sendTo_2 rfl rfl ?_
  refine zo_get (i := i_Mo_sendTo) (pc := 3) 10 19 rfl zok_Mo (Nat.le_of_ble_eq_true rfl) (ztb_of k_877 rfl) d_Mo_sendTo_3 (fun _ _ _ h => h) (hs.get (t := 0) rfl) rfl ?_
  refine zo_iload_n (i := i_Mo_sendTo) (pc := 6) d_Mo_sendTo_6 rfl ?_
  refine zo_iaload (i := i_Mo_sendTo) (pc := 7) d_Mo_sendTo_7 (hs.get (t := 9) rfl) (vp_in_nI (by omega) (by decide)) ?_
  refine zo_iload_n (i := i_Mo_sendTo) (pc := 8) d_Mo_sendTo_8 rfl ?_
  refine zc_V3 (i := i_Mo_sendTo) (pc := 9) 10 rfl m_Mo_out (ztb_of k_854 rfl) (ztb_of k_856 rfl) s_Mo_out d_Mo_sendTo_9 (Nat.le_of_ble_eq_true rfl) (Nat.le_of_ble_eq_true rfl) (Nat.le_of_ble_eq_true rfl) (Nat.le_of_ble_eq_true rfl) (hs.get (t := 0) rfl) (c_Mo_out (s := s) hs hm h8 fun ws hs => ?_)
  rw [nI_clamp (show j < 2 ^ 31 by omega)] at hs
  refine zo_aload_n (i := i_Mo_sendTo) (pc := 12) d_Mo_sendTo_12 rfl rfl ?_
  refine zo_get (i := i_Mo_sendTo) (pc := 13) 10 22 rfl zok_Mo (Nat.le_of_ble_eq_true rfl) (ztb_of k_880 rfl) d_Mo_sendTo_13 (fun _ _ _ h => h) (hs.get (t := 0) rfl) rfl ?_
  refine zo_iload_n (i := i_Mo_sendTo) (pc := 16) d_Mo_sendTo_16 rfl ?_
  refine zo_iaload (i := i_Mo_sendTo) (pc := 17) d_Mo_sendTo_17 (hs.get (t := 12) rfl) (vp_in_nI (by omega) (by decide)) ?_
  refine zo_iconst (i := i_Mo_sendTo) (pc := 18) (v := 3) d_Mo_sendTo_18 (by decide) ?_
  refine zo_icmp_ne (i := i_Mo_sendTo) (pc := 19) (tgt := 28) d_Mo_sendTo_19 (by decide) (fun h19 => ?_) (fun h19 => ?_)
  · refine zo_return (i := i_Mo_sendTo) (pc := 28) hq d_Mo_sendTo_28 rfl (Nat.le_of_ble_eq_true rfl) (Nat.le_of_ble_eq_true rfl) ?_
    rw [nI_clamp (show j < 2 ^ 31 by omega)] at h19
    exact k1 h19 ws hs
  · refine zo_aload_n (i := i_Mo_sendTo) (pc := 22) d_Mo_sendTo_22 rfl rfl ?_
    refine zo_iload_n (i := i_Mo_sendTo) (pc := 23) d_Mo_sendTo_23 rfl ?_
    refine zo_iconst (i := i_Mo_sendTo) (pc := 24) (v := 4) d_Mo_sendTo_24 (by decide) ?_
    refine zc_V2 (i := i_Mo_sendTo) (pc := 25) 10 rfl m_Mo_turn (ztb_of k_984 rfl) (ztb_of k_986 rfl) s_Mo_turn d_Mo_sendTo_25 (Nat.le_of_ble_eq_true rfl) (Nat.le_of_ble_eq_true rfl) (Nat.le_of_ble_eq_true rfl) (Nat.le_of_ble_eq_true rfl) (hs.get (t := 0) rfl) (c_Mo_turn hs hj fun ws hs => ?_)
    refine zo_return (i := i_Mo_sendTo) (pc := 28) hq d_Mo_sendTo_28 rfl (Nat.le_of_ble_eq_true rfl) (Nat.le_of_ble_eq_true rfl) ?_
    rw [nI_clamp (show j < 2 ^ 31 by omega)] at h19
    exact k0 h19 ws hs
