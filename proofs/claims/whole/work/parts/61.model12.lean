/-! The model: what waits is sent (walks by a program, gen61.py). -/
theorem c_Mo_release {g : zG} {ws : va_W} {post : Option Value → va_W → Prop} {B : Nat → Nat} {m : Nat → Int32} {F : Nat → Nat → Int32} {R : va_W} (hs : zHas ws (moW g B m F ++ R)) {j s : Nat} (hj : j < 7) (hm : m 8 = nI s) (h8 : s < 2147483648) (k0 : ¬ F 24 j ≤ 0 → F 22 j = 3 → ∀ w, zHas w (moW g B (mup m 8 (nI (s + 1))) (mup (mup (mup (mup (mup (mup F 24 (upd (F 24) j 0)) 9 (upd (F 9) (s % 12) 4)) 10 (upd (F 10) (s % 12) (F 19 j))) 11 (upd (F 11) (s % 12) (F 24 j))) 22 (upd (F 22) j 4)) 23 (upd (F 23) j (m 2))) ++ R) → post none w) (k1 : ¬ F 24 j ≤ 0 → ¬ F 22 j = 3 → ∀ w, zHas w (moW g B (mup m 8 (nI (s + 1))) (mup (mup (mup (mup F 24 (upd (F 24) j 0)) 9 (upd (F 9) (s % 12) 4)) 10 (upd (F 10) (s % 12) (F 19 j))) 11 (upd (F 11) (s % 12) (F 24 j))) ++ R) → post none w) (k2 : F 24 j ≤ 0 → post none ws) : zC g i_Mo_release [.ref (B 0), .int (nI j)] ws post := by
  refine zC.intro (by decide +kernel) rfl (Nat.le_of_ble_eq_true rfl) fun x0 hq => ?_
  refine zo_aload_n (i := i_Mo_release) (pc := 0) d_Mo_release_0 rfl rfl ?_
  refine zo_get (i := i_Mo_release) (pc := 1) 10 24 rfl zok_Mo (Nat.le_of_ble_eq_true rfl) (ztb_of k_882 rfl) d_Mo_release_1 (fun _ _ _ h => h) (hs.get (t := 0) rfl) rfl ?_
  refine zo_iload_n (i := i_Mo_release) (pc := 4) d_Mo_release_4 rfl ?_
  refine zo_iaload (i := i_Mo_release) (pc := 5) d_Mo_release_5 (hs.get (t := 14) rfl) (vp_in_nI (by omega) (by decide)) ?_
  refine zo_if_le (i := i_Mo_release) (pc := 6) (tgt := 29) d_Mo_release_6 (by decide) (fun h6 => ?_) (fun h6 => ?_)
  · refine zo_return (i := i_Mo_release) (pc := 29) hq d_Mo_release_29 rfl (Nat.le_of_ble_eq_true rfl) (Nat.le_of_ble_eq_true rfl) ?_
    rw [nI_clamp (show j < 2 ^ 31 by omega)] at h6
    exact k2 h6
  · refine zo_aload_n (i := i_Mo_release) (pc := 9) d_Mo_release_9 rfl rfl ?_
    refine zo_get (i := i_Mo_release) (pc := 10) 10 24 rfl zok_Mo (Nat.le_of_ble_eq_true rfl) (ztb_of k_882 rfl) d_Mo_release_10 (fun _ _ _ h => h) (hs.get (t := 0) rfl) rfl ?_
    refine zo_iload_n (i := i_Mo_release) (pc := 13) d_Mo_release_13 rfl ?_
    refine zo_iaload (i := i_Mo_release) (pc := 14) d_Mo_release_14 (hs.get (t := 14) rfl) (vp_in_nI (by omega) (by decide)) ?_
    refine zo_istore_n (i := i_Mo_release) (pc := 15) d_Mo_release_15 (Nat.le_of_ble_eq_true rfl) ?_
    refine zo_aload_n (i := i_Mo_release) (pc := 16) d_Mo_release_16 rfl rfl ?_
    refine zo_get (i := i_Mo_release) (pc := 17) 10 24 rfl zok_Mo (Nat.le_of_ble_eq_true rfl) (ztb_of k_882 rfl) d_Mo_release_17 (fun _ _ _ h => h) (hs.get (t := 0) rfl) rfl ?_
    refine zo_iload_n (i := i_Mo_release) (pc := 20) d_Mo_release_20 rfl ?_
    refine zo_iconst (i := i_Mo_release) (pc := 21) (v := 0) d_Mo_release_21 (by decide) ?_
    refine zh_iastore (i := i_Mo_release) (pc := 22) d_Mo_release_22 hs 14 rfl (vp_in_nI (by omega) (by decide)) fun ws hs => ?_
    rw [nI_clamp (show j < 2 ^ 31 by omega)] at *
    replace hs : zHas ws (moW g B m (mup F 24 (upd (F 24) j 0)) ++ R) := hs
    refine zo_aload_n (i := i_Mo_release) (pc := 23) d_Mo_release_23 rfl rfl ?_
    refine zo_iload_n (i := i_Mo_release) (pc := 24) d_Mo_release_24 rfl ?_
    refine zo_iload_n (i := i_Mo_release) (pc := 25) d_Mo_release_25 rfl ?_
    refine zc_V2 (i := i_Mo_release) (pc := 26) 10 rfl m_Mo_sendTo (ztb_of k_1024 rfl) (ztb_of k_1026 rfl) s_Mo_sendTo d_Mo_release_26 (Nat.le_of_ble_eq_true rfl) (Nat.le_of_ble_eq_true rfl) (Nat.le_of_ble_eq_true rfl) (Nat.le_of_ble_eq_true rfl) (hs.get (t := 0) rfl) (c_Mo_sendTo hs hj hm h8 (fun q ws hs => ?_) (fun q ws hs => ?_))
    · exact zo_return (i := i_Mo_release) (pc := 29) hq d_Mo_release_29 rfl (Nat.le_of_ble_eq_true rfl) (Nat.le_of_ble_eq_true rfl) (k0 h6 q ws hs)
    · exact zo_return (i := i_Mo_release) (pc := 29) hq d_Mo_release_29 rfl (Nat.le_of_ble_eq_true rfl) (Nat.le_of_ble_eq_true rfl) (k1 h6 q ws hs)
