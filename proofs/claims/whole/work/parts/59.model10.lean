/-! The model: what was sent is asked for (walks by a program, gen59.py). -/
theorem nI_sub {a b : Nat} (h : b ≤ a) : nI a - nI b = nI (a - b) := by
  have e := nI_add (a - b) b
  rw [Nat.sub_add_cancel h] at e
  rw [← e, Int32.add_sub_cancel]
theorem place_nI {s c : Nat} (hs : s < 2147483648) (hc : c < s) : nI s - 1 - nI c - (nI s - 1 - nI c) / 12 * 12 = nI ((s - 1 - c) % 12) := by
  have e : nI s - 1 - nI c = nI (s - 1 - c) := by
    rw [show (1 : Int32) = nI 1 from rfl, nI_sub (by omega), nI_sub (by omega)]
  rw [e, nI_rem (by omega)]
theorem place_eq {s c : Nat} (hc : c < min s 12) : (s - 1 - c) % 12 = (s % 12 + 23 - c) % 12 := by omega
theorem noOut_iff {s : Nat} {j : Int32} (hs : s < 2147483648) (h1 : ¬ j < 0) (h2 : ¬ 11 < j) (h3 : j < nI s) : j < nI (min s 12) := by
  obtain ⟨c, rfl, hc1, hc2⟩ := nI_ex h1
  have a := nI_ltN hc1 hs h3
  have b : c ≤ 11 := by
    refine Nat.le_of_not_lt fun q => h2 ?_
    exact nI_lt (a := 11) q (by omega)
  exact nI_lt (by omega) (by omega)
theorem c_Mo_outKind {g : zG} {ws : va_W} {post : Option Value → va_W → Prop} {B : Nat → Nat} {m : Nat → Int32} {F : Nat → Nat → Int32} {R : va_W} (hs : zHas ws (moW g B m F ++ R)) {s : Nat} {j : Int32} (hm : m 8 = nI s) (h8 : s < 2147483648) (k0 : ∀ c : Nat, j = nI c → c < min s 12 → ∀ w, zHas w (moW g B (mup m 0 0) F ++ R) → post (some (.int (F 9 ((s % 12 + 23 - c) % 12)))) w) (k1 : ¬ (¬ j < 0 ∧ j < nI (min s 12)) → ∀ w, zHas w (moW g B (mup m 0 1) F ++ R) → post (some (.int 0)) w) : zC g i_Mo_outKind [.ref (B 0), .int j] ws post := by
  refine zC.intro (by decide +kernel) rfl (Nat.le_of_ble_eq_true rfl) fun x0 hq => ?_
  by_cases hv : ¬ j < 0 ∧ j < nI (min s 12)
  · obtain ⟨c, rfl, hc1, hc2⟩ := nI_ex hv.1
    have hlt : c < min s 12 := nI_ltN hc1 (by omega) hv.2
    have n1 : ¬ (11 : Int32) < nI c := nI_nlt (a := 11) (b := c) (by omega) (by decide)
    have n2 : nI c < nI s := nI_lt (by omega) (by omega)
    have ep : m 8 - 1 - nI c - (m 8 - 1 - nI c) / 12 * 12 = nI ((s % 12 + 23 - c) % 12) := by rw [hm, place_nI h8 (by omega), place_eq hlt]
    refine zo_aload_n (i := i_Mo_outKind) (pc := 0) d_Mo_outKind_0 rfl rfl ?_
    refine zo_aload_n (i := i_Mo_outKind) (pc := 1) d_Mo_outKind_1 rfl rfl ?_
    refine zo_iload_n (i := i_Mo_outKind) (pc := 2) d_Mo_outKind_2 rfl ?_
    refine zc_V1 (i := i_Mo_outKind) (pc := 3) 10 rfl m_Mo_noOut (ztb_of k_1141 rfl) (ztb_of k_1143 rfl) s_Mo_noOut d_Mo_outKind_3 (Nat.le_of_ble_eq_true rfl) (Nat.le_of_ble_eq_true rfl) (Nat.le_of_ble_eq_true rfl) (Nat.le_of_ble_eq_true rfl) (hs.get (t := 0) rfl) (c_Mo_noOut hs ?_)
    refine zo_if_eq (i := i_Mo_outKind) (pc := 6) (tgt := 13) d_Mo_outKind_6 (by decide) (fun h6 => ?_) (fun h6 => False.elim (by first | exact absurd h6 ((by rw [hm]; simp [hv.1, n1, n2, zb])) | exact absurd ((by rw [hm]; simp [hv.1, n1, n2, zb])) h6))
    refine zo_iconst (i := i_Mo_outKind) (pc := 13) (v := 0) d_Mo_outKind_13 (by decide) ?_
    refine zh_put (i := i_Mo_outKind) (pc := 14) 10 0 rfl zok_Mo (Nat.le_of_ble_eq_true rfl) (ztb_of k_858 rfl) rfl d_Mo_outKind_14 (fun _ _ _ h => h) (t_Mo_ok 0 (Nat.le_of_ble_eq_true rfl)) rfl rfl hs 0 rfl (Nat.le_of_ble_eq_true rfl) fun ws hs => ?_
    refine zo_aload_n (i := i_Mo_outKind) (pc := 17) d_Mo_outKind_17 rfl rfl ?_
    refine zo_get (i := i_Mo_outKind) (pc := 18) 10 0 rfl zok_Mo (Nat.le_of_ble_eq_true rfl) (ztb_of k_858 rfl) d_Mo_outKind_18 (fun _ _ _ h => h) (hs.get (t := 0) rfl) rfl ?_
    refine zo_if_eq (i := i_Mo_outKind) (pc := 21) (tgt := 28) d_Mo_outKind_21 (by decide) (fun h21 => ?_) (fun h21 => False.elim (by first | exact absurd h21 (rfl) | exact absurd (rfl) h21))
    refine zo_aload_n (i := i_Mo_outKind) (pc := 28) d_Mo_outKind_28 rfl rfl ?_
    refine zo_get (i := i_Mo_outKind) (pc := 29) 10 9 rfl zok_Mo (Nat.le_of_ble_eq_true rfl) (ztb_of k_867 rfl) d_Mo_outKind_29 (fun _ _ _ h => h) (hs.get (t := 0) rfl) rfl ?_
    refine zo_aload_n (i := i_Mo_outKind) (pc := 32) d_Mo_outKind_32 rfl rfl ?_
    refine zo_iload_n (i := i_Mo_outKind) (pc := 33) d_Mo_outKind_33 rfl ?_
    replace hs : zHas ws (moW g B (mup m 0 0) F ++ R) := hs
    refine zc_V1 (i := i_Mo_outKind) (pc := 34) 10 rfl m_Mo_place (ztb_of k_1145 rfl) (ztb_of k_1147 rfl) s_Mo_place d_Mo_outKind_34 (Nat.le_of_ble_eq_true rfl) (Nat.le_of_ble_eq_true rfl) (Nat.le_of_ble_eq_true rfl) (Nat.le_of_ble_eq_true rfl) (hs.get (t := 0) rfl) (c_Mo_place hs ?_)
    show zW _ _ _ _ _ (.int (m 8 - 1 - nI c - (m 8 - 1 - nI c) / 12 * 12) :: _) _ _ _
    rw [ep]
    refine zo_iaload (i := i_Mo_outKind) (pc := 37) d_Mo_outKind_37 (hs.get (t := 1) rfl) (vp_in_nI (Nat.mod_lt _ (by decide)) (by decide)) ?_
    refine zo_ireturn (i := i_Mo_outKind) (pc := 38) hq d_Mo_outKind_38 rfl (Nat.le_of_ble_eq_true rfl) (Nat.le_of_ble_eq_true rfl) ?_
    rw [nI_clamp (show (s % 12 + 23 - c) % 12 < 2 ^ 31 by omega)]
    exact k0 c rfl hlt ws hs
  · refine zo_aload_n (i := i_Mo_outKind) (pc := 0) d_Mo_outKind_0 rfl rfl ?_
    refine zo_aload_n (i := i_Mo_outKind) (pc := 1) d_Mo_outKind_1 rfl rfl ?_
    refine zo_iload_n (i := i_Mo_outKind) (pc := 2) d_Mo_outKind_2 rfl ?_
    refine zc_V1 (i := i_Mo_outKind) (pc := 3) 10 rfl m_Mo_noOut (ztb_of k_1141 rfl) (ztb_of k_1143 rfl) s_Mo_noOut d_Mo_outKind_3 (Nat.le_of_ble_eq_true rfl) (Nat.le_of_ble_eq_true rfl) (Nat.le_of_ble_eq_true rfl) (Nat.le_of_ble_eq_true rfl) (hs.get (t := 0) rfl) (c_Mo_noOut hs ?_)
    refine zo_if_eq (i := i_Mo_outKind) (pc := 6) (tgt := 13) d_Mo_outKind_6 (by decide) (fun h6 => False.elim (by first | exact absurd h6 ((by rw [hm]; intro e; apply hv; simp [zb_0] at e; exact ⟨by simpa using e.1.1, noOut_iff h8 (by simpa using e.1.1) (by simpa using e.1.2) e.2⟩)) | exact absurd ((by rw [hm]; intro e; apply hv; simp [zb_0] at e; exact ⟨by simpa using e.1.1, noOut_iff h8 (by simpa using e.1.1) (by simpa using e.1.2) e.2⟩)) h6)) (fun h6 => ?_)
    refine zo_iconst (i := i_Mo_outKind) (pc := 9) (v := 1) d_Mo_outKind_9 (by decide) ?_
    refine zo_goto (i := i_Mo_outKind) (pc := 10) (tgt := 14) d_Mo_outKind_10 (by decide) ?_
    refine zh_put (i := i_Mo_outKind) (pc := 14) 10 0 rfl zok_Mo (Nat.le_of_ble_eq_true rfl) (ztb_of k_858 rfl) rfl d_Mo_outKind_14 (fun _ _ _ h => h) (t_Mo_ok 0 (Nat.le_of_ble_eq_true rfl)) rfl rfl hs 0 rfl (Nat.le_of_ble_eq_true rfl) fun ws hs => ?_
    refine zo_aload_n (i := i_Mo_outKind) (pc := 17) d_Mo_outKind_17 rfl rfl ?_
    refine zo_get (i := i_Mo_outKind) (pc := 18) 10 0 rfl zok_Mo (Nat.le_of_ble_eq_true rfl) (ztb_of k_858 rfl) d_Mo_outKind_18 (fun _ _ _ h => h) (hs.get (t := 0) rfl) rfl ?_
    refine zo_if_eq (i := i_Mo_outKind) (pc := 21) (tgt := 28) d_Mo_outKind_21 (by decide) (fun h21 => False.elim (by first | exact absurd h21 ((by decide)) | exact absurd ((by decide)) h21)) (fun h21 => ?_)
    refine zo_iconst (i := i_Mo_outKind) (pc := 24) (v := 0) d_Mo_outKind_24 (by decide) ?_
    refine zo_goto (i := i_Mo_outKind) (pc := 25) (tgt := 38) d_Mo_outKind_25 (by decide) ?_
    refine zo_ireturn (i := i_Mo_outKind) (pc := 38) hq d_Mo_outKind_38 rfl (Nat.le_of_ble_eq_true rfl) (Nat.le_of_ble_eq_true rfl) ?_
    exact k1 hv ws hs
theorem c_Mo_outTo {g : zG} {ws : va_W} {post : Option Value → va_W → Prop} {B : Nat → Nat} {m : Nat → Int32} {F : Nat → Nat → Int32} {R : va_W} (hs : zHas ws (moW g B m F ++ R)) {s : Nat} {j : Int32} (hm : m 8 = nI s) (h8 : s < 2147483648) (k0 : ∀ c : Nat, j = nI c → c < min s 12 → ∀ w, zHas w (moW g B (mup m 0 0) F ++ R) → post (some (.int (F 10 ((s % 12 + 23 - c) % 12)))) w) (k1 : ¬ (¬ j < 0 ∧ j < nI (min s 12)) → ∀ w, zHas w (moW g B (mup m 0 1) F ++ R) → post (some (.int 0)) w) : zC g i_Mo_outTo [.ref (B 0), .int j] ws post := by
  refine zC.intro (by decide +kernel) rfl (Nat.le_of_ble_eq_true rfl) fun x0 hq => ?_
  by_cases hv : ¬ j < 0 ∧ j < nI (min s 12)
  · obtain ⟨c, rfl, hc1, hc2⟩ := nI_ex hv.1
    have hlt : c < min s 12 := nI_ltN hc1 (by omega) hv.2
    have n1 : ¬ (11 : Int32) < nI c := nI_nlt (a := 11) (b := c) (by omega) (by decide)
    have n2 : nI c < nI s := nI_lt (by omega) (by omega)
    have ep : m 8 - 1 - nI c - (m 8 - 1 - nI c) / 12 * 12 = nI ((s % 12 + 23 - c) % 12) := by rw [hm, place_nI h8 (by omega), place_eq hlt]
    refine zo_aload_n (i := i_Mo_outTo) (pc := 0) d_Mo_outTo_0 rfl rfl ?_
    refine zo_aload_n (i := i_Mo_outTo) (pc := 1) d_Mo_outTo_1 rfl rfl ?_
    refine zo_iload_n (i := i_Mo_outTo) (pc := 2) d_Mo_outTo_2 rfl ?_
    refine zc_V1 (i := i_Mo_outTo) (pc := 3) 10 rfl m_Mo_noOut (ztb_of k_1141 rfl) (ztb_of k_1143 rfl) s_Mo_noOut d_Mo_outTo_3 (Nat.le_of_ble_eq_true rfl) (Nat.le_of_ble_eq_true rfl) (Nat.le_of_ble_eq_true rfl) (Nat.le_of_ble_eq_true rfl) (hs.get (t := 0) rfl) (c_Mo_noOut hs ?_)
    refine zo_if_eq (i := i_Mo_outTo) (pc := 6) (tgt := 13) d_Mo_outTo_6 (by decide) (fun h6 => ?_) (fun h6 => False.elim (by first | exact absurd h6 ((by rw [hm]; simp [hv.1, n1, n2, zb])) | exact absurd ((by rw [hm]; simp [hv.1, n1, n2, zb])) h6))
    refine zo_iconst (i := i_Mo_outTo) (pc := 13) (v := 0) d_Mo_outTo_13 (by decide) ?_
    refine zh_put (i := i_Mo_outTo) (pc := 14) 10 0 rfl zok_Mo (Nat.le_of_ble_eq_true rfl) (ztb_of k_858 rfl) rfl d_Mo_outTo_14 (fun _ _ _ h => h) (t_Mo_ok 0 (Nat.le_of_ble_eq_true rfl)) rfl rfl hs 0 rfl (Nat.le_of_ble_eq_true rfl) fun ws hs => ?_
    refine zo_aload_n (i := i_Mo_outTo) (pc := 17) d_Mo_outTo_17 rfl rfl ?_
    refine zo_get (i := i_Mo_outTo) (pc := 18) 10 0 rfl zok_Mo (Nat.le_of_ble_eq_true rfl) (ztb_of k_858 rfl) d_Mo_outTo_18 (fun _ _ _ h => h) (hs.get (t := 0) rfl) rfl ?_
    refine zo_if_eq (i := i_Mo_outTo) (pc := 21) (tgt := 28) d_Mo_outTo_21 (by decide) (fun h21 => ?_) (fun h21 => False.elim (by first | exact absurd h21 (rfl) | exact absurd (rfl) h21))
    refine zo_aload_n (i := i_Mo_outTo) (pc := 28) d_Mo_outTo_28 rfl rfl ?_
    refine zo_get (i := i_Mo_outTo) (pc := 29) 10 10 rfl zok_Mo (Nat.le_of_ble_eq_true rfl) (ztb_of k_868 rfl) d_Mo_outTo_29 (fun _ _ _ h => h) (hs.get (t := 0) rfl) rfl ?_
    refine zo_aload_n (i := i_Mo_outTo) (pc := 32) d_Mo_outTo_32 rfl rfl ?_
    refine zo_iload_n (i := i_Mo_outTo) (pc := 33) d_Mo_outTo_33 rfl ?_
    replace hs : zHas ws (moW g B (mup m 0 0) F ++ R) := hs
    refine zc_V1 (i := i_Mo_outTo) (pc := 34) 10 rfl m_Mo_place (ztb_of k_1145 rfl) (ztb_of k_1147 rfl) s_Mo_place d_Mo_outTo_34 (Nat.le_of_ble_eq_true rfl) (Nat.le_of_ble_eq_true rfl) (Nat.le_of_ble_eq_true rfl) (Nat.le_of_ble_eq_true rfl) (hs.get (t := 0) rfl) (c_Mo_place hs ?_)
    show zW _ _ _ _ _ (.int (m 8 - 1 - nI c - (m 8 - 1 - nI c) / 12 * 12) :: _) _ _ _
    rw [ep]
    refine zo_iaload (i := i_Mo_outTo) (pc := 37) d_Mo_outTo_37 (hs.get (t := 2) rfl) (vp_in_nI (Nat.mod_lt _ (by decide)) (by decide)) ?_
    refine zo_ireturn (i := i_Mo_outTo) (pc := 38) hq d_Mo_outTo_38 rfl (Nat.le_of_ble_eq_true rfl) (Nat.le_of_ble_eq_true rfl) ?_
    rw [nI_clamp (show (s % 12 + 23 - c) % 12 < 2 ^ 31 by omega)]
    exact k0 c rfl hlt ws hs
  · refine zo_aload_n (i := i_Mo_outTo) (pc := 0) d_Mo_outTo_0 rfl rfl ?_
    refine zo_aload_n (i := i_Mo_outTo) (pc := 1) d_Mo_outTo_1 rfl rfl ?_
    refine zo_iload_n (i := i_Mo_outTo) (pc := 2) d_Mo_outTo_2 rfl ?_
    refine zc_V1 (i := i_Mo_outTo) (pc := 3) 10 rfl m_Mo_noOut (ztb_of k_1141 rfl) (ztb_of k_1143 rfl) s_Mo_noOut d_Mo_outTo_3 (Nat.le_of_ble_eq_true rfl) (Nat.le_of_ble_eq_true rfl) (Nat.le_of_ble_eq_true rfl) (Nat.le_of_ble_eq_true rfl) (hs.get (t := 0) rfl) (c_Mo_noOut hs ?_)
    refine zo_if_eq (i := i_Mo_outTo) (pc := 6) (tgt := 13) d_Mo_outTo_6 (by decide) (fun h6 => False.elim (by first | exact absurd h6 ((by rw [hm]; intro e; apply hv; simp [zb_0] at e; exact ⟨by simpa using e.1.1, noOut_iff h8 (by simpa using e.1.1) (by simpa using e.1.2) e.2⟩)) | exact absurd ((by rw [hm]; intro e; apply hv; simp [zb_0] at e; exact ⟨by simpa using e.1.1, noOut_iff h8 (by simpa using e.1.1) (by simpa using e.1.2) e.2⟩)) h6)) (fun h6 => ?_)
    refine zo_iconst (i := i_Mo_outTo) (pc := 9) (v := 1) d_Mo_outTo_9 (by decide) ?_
    refine zo_goto (i := i_Mo_outTo) (pc := 10) (tgt := 14) d_Mo_outTo_10 (by decide) ?_
    refine zh_put (i := i_Mo_outTo) (pc := 14) 10 0 rfl zok_Mo (Nat.le_of_ble_eq_true rfl) (ztb_of k_858 rfl) rfl d_Mo_outTo_14 (fun _ _ _ h => h) (t_Mo_ok 0 (Nat.le_of_ble_eq_true rfl)) rfl rfl hs 0 rfl (Nat.le_of_ble_eq_true rfl) fun ws hs => ?_
    refine zo_aload_n (i := i_Mo_outTo) (pc := 17) d_Mo_outTo_17 rfl rfl ?_
    refine zo_get (i := i_Mo_outTo) (pc := 18) 10 0 rfl zok_Mo (Nat.le_of_ble_eq_true rfl) (ztb_of k_858 rfl) d_Mo_outTo_18 (fun _ _ _ h => h) (hs.get (t := 0) rfl) rfl ?_
    refine zo_if_eq (i := i_Mo_outTo) (pc := 21) (tgt := 28) d_Mo_outTo_21 (by decide) (fun h21 => False.elim (by first | exact absurd h21 ((by decide)) | exact absurd ((by decide)) h21)) (fun h21 => ?_)
    refine zo_iconst (i := i_Mo_outTo) (pc := 24) (v := 0) d_Mo_outTo_24 (by decide) ?_
    refine zo_goto (i := i_Mo_outTo) (pc := 25) (tgt := 38) d_Mo_outTo_25 (by decide) ?_
    refine zo_ireturn (i := i_Mo_outTo) (pc := 38) hq d_Mo_outTo_38 rfl (Nat.le_of_ble_eq_true rfl) (Nat.le_of_ble_eq_true rfl) ?_
    exact k1 hv ws hs
theorem c_Mo_outX {g : zG} {ws : va_W} {post : Option Value → va_W → Prop} {B : Nat → Nat} {m : Nat → Int32} {F : Nat → Nat → Int32} {R : va_W} (hs : zHas ws (moW g B m F ++ R)) {s : Nat} {j : Int32} (hm : m 8 = nI s) (h8 : s < 2147483648) (k0 : ∀ c : Nat, j = nI c → c < min s 12 → ∀ w, zHas w (moW g B (mup m 0 0) F ++ R) → post (some (.int (F 11 ((s % 12 + 23 - c) % 12)))) w) (k1 : ¬ (¬ j < 0 ∧ j < nI (min s 12)) → ∀ w, zHas w (moW g B (mup m 0 1) F ++ R) → post (some (.int 0)) w) : zC g i_Mo_outX [.ref (B 0), .int j] ws post := by
  refine zC.intro (by decide +kernel) rfl (Nat.le_of_ble_eq_true rfl) fun x0 hq => ?_
  by_cases hv : ¬ j < 0 ∧ j < nI (min s 12)
  · obtain ⟨c, rfl, hc1, hc2⟩ := nI_ex hv.1
    have hlt : c < min s 12 := nI_ltN hc1 (by omega) hv.2
    have n1 : ¬ (11 : Int32) < nI c := nI_nlt (a := 11) (b := c) (by omega) (by decide)
    have n2 : nI c < nI s := nI_lt (by omega) (by omega)
    have ep : m 8 - 1 - nI c - (m 8 - 1 - nI c) / 12 * 12 = nI ((s % 12 + 23 - c) % 12) := by rw [hm, place_nI h8 (by omega), place_eq hlt]
    refine zo_aload_n (i := i_Mo_outX) (pc := 0) d_Mo_outX_0 rfl rfl ?_
    refine zo_aload_n (i := i_Mo_outX) (pc := 1) d_Mo_outX_1 rfl rfl ?_
    refine zo_iload_n (i := i_Mo_outX) (pc := 2) d_Mo_outX_2 rfl ?_
    refine zc_V1 (i := i_Mo_outX) (pc := 3) 10 rfl m_Mo_noOut (ztb_of k_1141 rfl) (ztb_of k_1143 rfl) s_Mo_noOut d_Mo_outX_3 (Nat.le_of_ble_eq_true rfl) (Nat.le_of_ble_eq_true rfl) (Nat.le_of_ble_eq_true rfl) (Nat.le_of_ble_eq_true rfl) (hs.get (t := 0) rfl) (c_Mo_noOut hs ?_)
    refine zo_if_eq (i := i_Mo_outX) (pc := 6) (tgt := 13) d_Mo_outX_6 (by decide) (fun h6 => ?_) (fun h6 => False.elim (by first | exact absurd h6 ((by rw [hm]; simp [hv.1, n1, n2, zb])) | exact absurd ((by rw [hm]; simp [hv.1, n1, n2, zb])) h6))
    refine zo_iconst (i := i_Mo_outX) (pc := 13) (v := 0) d_Mo_outX_13 (by decide) ?_
    refine zh_put (i := i_Mo_outX) (pc := 14) 10 0 rfl zok_Mo (Nat.le_of_ble_eq_true rfl) (ztb_of k_858 rfl) rfl d_Mo_outX_14 (fun _ _ _ h => h) (t_Mo_ok 0 (Nat.le_of_ble_eq_true rfl)) rfl rfl hs 0 rfl (Nat.le_of_ble_eq_true rfl) fun ws hs => ?_
    refine zo_aload_n (i := i_Mo_outX) (pc := 17) d_Mo_outX_17 rfl rfl ?_
    refine zo_get (i := i_Mo_outX) (pc := 18) 10 0 rfl zok_Mo (Nat.le_of_ble_eq_true rfl) (ztb_of k_858 rfl) d_Mo_outX_18 (fun _ _ _ h => h) (hs.get (t := 0) rfl) rfl ?_
    refine zo_if_eq (i := i_Mo_outX) (pc := 21) (tgt := 28) d_Mo_outX_21 (by decide) (fun h21 => ?_) (fun h21 => False.elim (by first | exact absurd h21 (rfl) | exact absurd (rfl) h21))
    refine zo_aload_n (i := i_Mo_outX) (pc := 28) d_Mo_outX_28 rfl rfl ?_
    refine zo_get (i := i_Mo_outX) (pc := 29) 10 11 rfl zok_Mo (Nat.le_of_ble_eq_true rfl) (ztb_of k_869 rfl) d_Mo_outX_29 (fun _ _ _ h => h) (hs.get (t := 0) rfl) rfl ?_
    refine zo_aload_n (i := i_Mo_outX) (pc := 32) d_Mo_outX_32 rfl rfl ?_
    refine zo_iload_n (i := i_Mo_outX) (pc := 33) d_Mo_outX_33 rfl ?_
    replace hs : zHas ws (moW g B (mup m 0 0) F ++ R) := hs
    refine zc_V1 (i := i_Mo_outX) (pc := 34) 10 rfl m_Mo_place (ztb_of k_1145 rfl) (ztb_of k_1147 rfl) s_Mo_place d_Mo_outX_34 (Nat.le_of_ble_eq_true rfl) (Nat.le_of_ble_eq_true rfl) (Nat.le_of_ble_eq_true rfl) (Nat.le_of_ble_eq_true rfl) (hs.get (t := 0) rfl) (c_Mo_place hs ?_)
    show zW _ _ _ _ _ (.int (m 8 - 1 - nI c - (m 8 - 1 - nI c) / 12 * 12) :: _) _ _ _
    rw [ep]
    refine zo_iaload (i := i_Mo_outX) (pc := 37) d_Mo_outX_37 (hs.get (t := 3) rfl) (vp_in_nI (Nat.mod_lt _ (by decide)) (by decide)) ?_
    refine zo_ireturn (i := i_Mo_outX) (pc := 38) hq d_Mo_outX_38 rfl (Nat.le_of_ble_eq_true rfl) (Nat.le_of_ble_eq_true rfl) ?_
    rw [nI_clamp (show (s % 12 + 23 - c) % 12 < 2 ^ 31 by omega)]
    exact k0 c rfl hlt ws hs
  · refine zo_aload_n (i := i_Mo_outX) (pc := 0) d_Mo_outX_0 rfl rfl ?_
    refine zo_aload_n (i := i_Mo_outX) (pc := 1) d_Mo_outX_1 rfl rfl ?_
    refine zo_iload_n (i := i_Mo_outX) (pc := 2) d_Mo_outX_2 rfl ?_
    refine zc_V1 (i := i_Mo_outX) (pc := 3) 10 rfl m_Mo_noOut (ztb_of k_1141 rfl) (ztb_of k_1143 rfl) s_Mo_noOut d_Mo_outX_3 (Nat.le_of_ble_eq_true rfl) (Nat.le_of_ble_eq_true rfl) (Nat.le_of_ble_eq_true rfl) (Nat.le_of_ble_eq_true rfl) (hs.get (t := 0) rfl) (c_Mo_noOut hs ?_)
    refine zo_if_eq (i := i_Mo_outX) (pc := 6) (tgt := 13) d_Mo_outX_6 (by decide) (fun h6 => False.elim (by first | exact absurd h6 ((by rw [hm]; intro e; apply hv; simp [zb_0] at e; exact ⟨by simpa using e.1.1, noOut_iff h8 (by simpa using e.1.1) (by simpa using e.1.2) e.2⟩)) | exact absurd ((by rw [hm]; intro e; apply hv; simp [zb_0] at e; exact ⟨by simpa using e.1.1, noOut_iff h8 (by simpa using e.1.1) (by simpa using e.1.2) e.2⟩)) h6)) (fun h6 => ?_)
    refine zo_iconst (i := i_Mo_outX) (pc := 9) (v := 1) d_Mo_outX_9 (by decide) ?_
    refine zo_goto (i := i_Mo_outX) (pc := 10) (tgt := 14) d_Mo_outX_10 (by decide) ?_
    refine zh_put (i := i_Mo_outX) (pc := 14) 10 0 rfl zok_Mo (Nat.le_of_ble_eq_true rfl) (ztb_of k_858 rfl) rfl d_Mo_outX_14 (fun _ _ _ h => h) (t_Mo_ok 0 (Nat.le_of_ble_eq_true rfl)) rfl rfl hs 0 rfl (Nat.le_of_ble_eq_true rfl) fun ws hs => ?_
    refine zo_aload_n (i := i_Mo_outX) (pc := 17) d_Mo_outX_17 rfl rfl ?_
    refine zo_get (i := i_Mo_outX) (pc := 18) 10 0 rfl zok_Mo (Nat.le_of_ble_eq_true rfl) (ztb_of k_858 rfl) d_Mo_outX_18 (fun _ _ _ h => h) (hs.get (t := 0) rfl) rfl ?_
    refine zo_if_eq (i := i_Mo_outX) (pc := 21) (tgt := 28) d_Mo_outX_21 (by decide) (fun h21 => False.elim (by first | exact absurd h21 ((by decide)) | exact absurd ((by decide)) h21)) (fun h21 => ?_)
    refine zo_iconst (i := i_Mo_outX) (pc := 24) (v := 0) d_Mo_outX_24 (by decide) ?_
    refine zo_goto (i := i_Mo_outX) (pc := 25) (tgt := 38) d_Mo_outX_25 (by decide) ?_
    refine zo_ireturn (i := i_Mo_outX) (pc := 38) hq d_Mo_outX_38 rfl (Nat.le_of_ble_eq_true rfl) (Nat.le_of_ble_eq_true rfl) ?_
    exact k1 hv ws hs
