/-! The model: a place is given up, the later ones move down (walks by a program, gen53.py). -/
section ZShift
/-- the places from i to j - 1 hold what the next ones held -/
def shf (f : Nat → Int32) (i j : Nat) : Nat → Int32 := fun t => if i ≤ t ∧ t < j then f (t + 1) else f t
theorem shf_step {f : Nat → Int32} {i j : Nat} (h : i ≤ j) : upd (shf f i j) j (shf f i j (j + 1)) = shf f i (j + 1) := by
  funext t
  unfold upd
  by_cases e : t = j
  · rw [if_pos e, e]
    unfold shf
    rw [if_neg (by omega), if_pos (by omega)]
  · rw [if_neg e]
    unfold shf
    by_cases c : i ≤ t ∧ t < j
    · rw [if_pos c, if_pos (by omega)]
    · rw [if_neg c, if_neg (by omega)]
theorem shf_0 {f : Nat → Int32} {i : Nat} : shf f i i = f := by
  funext t
  unfold shf
  rw [if_neg (by omega)]
theorem shf_nar {f : Nat → Int32} {i j t : Nat} (hz : ∀ t, vp_nar .boolean (f t) = f t) : vp_nar .boolean (shf f i j t) = shf f i j t := by
  unfold shf
  by_cases c : i ≤ t ∧ t < j
  · rw [if_pos c]; exact hz _
  · rw [if_neg c]; exact hz _
end ZShift
theorem c_Mo_dropOwn {g : zG} {ws : va_W} {post : Option Value → va_W → Prop} {B : Nat → Nat} {m : Nat → Int32} {F : Nat → Nat → Int32} {R : va_W} (hs : zHas ws (moW g B m F ++ R)) {n i : Nat} (hm : m 12 = nI (n + 1)) (hn : n + 1 ≤ 6) (hi : i ≤ n) (k : ∀ w, zHas w (moW g B (mup m 12 (nI n)) (mup (mup (mup (mup (mup F 13 (shf (F 13) i n)) 14 (shf (F 14) i n)) 15 (shf (F 15) i n)) 16 (shf (F 16) i n)) 17 (shf (F 17) i n)) ++ R) → post none w) : zC g i_Mo_dropOwn [.ref (B 0), .int (nI i)] ws post := by
  refine zC.intro (by decide +kernel) rfl (Nat.le_of_ble_eq_true rfl) fun x0 hq => ?_
  have loop : ∀ (d j : Nat), j + d = n → i ≤ j → ∀ ws, zHas ws (moW g B (mup m 12 (nI n)) (mup (mup (mup (mup (mup F 13 (shf (F 13) i j)) 14 (shf (F 14) i j)) 15 (shf (F 15) i j)) 16 (shf (F 16) i j)) 17 (shf (F 17) i j)) ++ R) → zW x0 g i_Mo_dropOwn 12 [some (.ref (B 0)), some (.int (nI i)), some (.int (nI j))] [] ws 0 0 := by
    intro d
    induction d with
    | zero =>
      intro j hj hij ws hs
      refine zo_iload_n (i := i_Mo_dropOwn) (pc := 12) d_Mo_dropOwn_12 rfl ?_
      refine zo_aload_n (i := i_Mo_dropOwn) (pc := 13) d_Mo_dropOwn_13 rfl rfl ?_
      refine zo_get (i := i_Mo_dropOwn) (pc := 14) 10 12 rfl zok_Mo (Nat.le_of_ble_eq_true rfl) (ztb_of k_870 rfl) d_Mo_dropOwn_14 (fun _ _ _ h => h) (hs.get (t := 0) rfl) rfl ?_
      refine zo_icmp_ge (i := i_Mo_dropOwn) (pc := 17) (tgt := 96) d_Mo_dropOwn_17 (by decide) (fun h17 => ?_) (fun h17 => False.elim (by first | exact absurd h17 ((nI_le (show n ≤ j by omega) (by omega))) | exact absurd ((nI_le (show n ≤ j by omega) (by omega))) h17))
      refine zo_return (i := i_Mo_dropOwn) (pc := 96) hq d_Mo_dropOwn_96 rfl (Nat.le_of_ble_eq_true rfl) (Nat.le_of_ble_eq_true rfl) ?_
      have e : j = n := by omega
      subst e
      exact k ws hs
    | succ d ih =>
      intro j hj hij ws hs
      refine zo_iload_n (i := i_Mo_dropOwn) (pc := 12) d_Mo_dropOwn_12 rfl ?_
      refine zo_aload_n (i := i_Mo_dropOwn) (pc := 13) d_Mo_dropOwn_13 rfl rfl ?_
      refine zo_get (i := i_Mo_dropOwn) (pc := 14) 10 12 rfl zok_Mo (Nat.le_of_ble_eq_true rfl) (ztb_of k_870 rfl) d_Mo_dropOwn_14 (fun _ _ _ h => h) (hs.get (t := 0) rfl) rfl ?_
      refine zo_icmp_ge (i := i_Mo_dropOwn) (pc := 17) (tgt := 96) d_Mo_dropOwn_17 (by decide) (fun h17 => False.elim (by first | exact absurd h17 ((nI_ge (show j < n by omega) (by omega))) | exact absurd ((nI_ge (show j < n by omega) (by omega))) h17)) (fun h17 => ?_)
      refine zo_aload_n (i := i_Mo_dropOwn) (pc := 20) d_Mo_dropOwn_20 rfl rfl ?_
      refine zo_get (i := i_Mo_dropOwn) (pc := 21) 10 13 rfl zok_Mo (Nat.le_of_ble_eq_true rfl) (ztb_of k_871 rfl) d_Mo_dropOwn_21 (fun _ _ _ h => h) (hs.get (t := 0) rfl) rfl ?_
      refine zo_iload_n (i := i_Mo_dropOwn) (pc := 24) d_Mo_dropOwn_24 rfl ?_
      refine zo_aload_n (i := i_Mo_dropOwn) (pc := 25) d_Mo_dropOwn_25 rfl rfl ?_
      refine zo_get (i := i_Mo_dropOwn) (pc := 26) 10 13 rfl zok_Mo (Nat.le_of_ble_eq_true rfl) (ztb_of k_871 rfl) d_Mo_dropOwn_26 (fun _ _ _ h => h) (hs.get (t := 0) rfl) rfl ?_
      refine zo_iload_n (i := i_Mo_dropOwn) (pc := 29) d_Mo_dropOwn_29 rfl ?_
      refine zo_iconst (i := i_Mo_dropOwn) (pc := 30) (v := 1) d_Mo_dropOwn_30 (by decide) ?_
      refine zo_iadd (i := i_Mo_dropOwn) (pc := 31) d_Mo_dropOwn_31 ?_
      refine zo_iaload (i := i_Mo_dropOwn) (pc := 32) d_Mo_dropOwn_32 (hs.get (t := 4) rfl) (by rw [nI_1]; exact vp_in_nI (by omega) (by decide)) ?_
      refine zh_iastore (i := i_Mo_dropOwn) (pc := 33) d_Mo_dropOwn_33 hs 4 rfl (vp_in_nI (by omega) (by decide)) fun ws hs => ?_
      refine zo_aload_n (i := i_Mo_dropOwn) (pc := 34) d_Mo_dropOwn_34 rfl rfl ?_
      refine zo_get (i := i_Mo_dropOwn) (pc := 35) 10 14 rfl zok_Mo (Nat.le_of_ble_eq_true rfl) (ztb_of k_872 rfl) d_Mo_dropOwn_35 (fun _ _ _ h => h) (hs.get (t := 0) rfl) rfl ?_
      refine zo_iload_n (i := i_Mo_dropOwn) (pc := 38) d_Mo_dropOwn_38 rfl ?_
      refine zo_aload_n (i := i_Mo_dropOwn) (pc := 39) d_Mo_dropOwn_39 rfl rfl ?_
      refine zo_get (i := i_Mo_dropOwn) (pc := 40) 10 14 rfl zok_Mo (Nat.le_of_ble_eq_true rfl) (ztb_of k_872 rfl) d_Mo_dropOwn_40 (fun _ _ _ h => h) (hs.get (t := 0) rfl) rfl ?_
      refine zo_iload_n (i := i_Mo_dropOwn) (pc := 43) d_Mo_dropOwn_43 rfl ?_
      refine zo_iconst (i := i_Mo_dropOwn) (pc := 44) (v := 1) d_Mo_dropOwn_44 (by decide) ?_
      refine zo_iadd (i := i_Mo_dropOwn) (pc := 45) d_Mo_dropOwn_45 ?_
      refine zo_iaload (i := i_Mo_dropOwn) (pc := 46) d_Mo_dropOwn_46 (hs.get (t := 5) rfl) (by rw [nI_1]; exact vp_in_nI (by omega) (by decide)) ?_
      refine zh_iastore (i := i_Mo_dropOwn) (pc := 47) d_Mo_dropOwn_47 hs 5 rfl (vp_in_nI (by omega) (by decide)) fun ws hs => ?_
      refine zo_aload_n (i := i_Mo_dropOwn) (pc := 48) d_Mo_dropOwn_48 rfl rfl ?_
      refine zo_get (i := i_Mo_dropOwn) (pc := 49) 10 15 rfl zok_Mo (Nat.le_of_ble_eq_true rfl) (ztb_of k_873 rfl) d_Mo_dropOwn_49 (fun _ _ _ h => h) (hs.get (t := 0) rfl) rfl ?_
      refine zo_iload_n (i := i_Mo_dropOwn) (pc := 52) d_Mo_dropOwn_52 rfl ?_
      refine zo_aload_n (i := i_Mo_dropOwn) (pc := 53) d_Mo_dropOwn_53 rfl rfl ?_
      refine zo_get (i := i_Mo_dropOwn) (pc := 54) 10 15 rfl zok_Mo (Nat.le_of_ble_eq_true rfl) (ztb_of k_873 rfl) d_Mo_dropOwn_54 (fun _ _ _ h => h) (hs.get (t := 0) rfl) rfl ?_
      refine zo_iload_n (i := i_Mo_dropOwn) (pc := 57) d_Mo_dropOwn_57 rfl ?_
      refine zo_iconst (i := i_Mo_dropOwn) (pc := 58) (v := 1) d_Mo_dropOwn_58 (by decide) ?_
      refine zo_iadd (i := i_Mo_dropOwn) (pc := 59) d_Mo_dropOwn_59 ?_
      refine zo_iaload (i := i_Mo_dropOwn) (pc := 60) d_Mo_dropOwn_60 (hs.get (t := 6) rfl) (by rw [nI_1]; exact vp_in_nI (by omega) (by decide)) ?_
      refine zh_iastore (i := i_Mo_dropOwn) (pc := 61) d_Mo_dropOwn_61 hs 6 rfl (vp_in_nI (by omega) (by decide)) fun ws hs => ?_
      refine zo_aload_n (i := i_Mo_dropOwn) (pc := 62) d_Mo_dropOwn_62 rfl rfl ?_
      refine zo_get (i := i_Mo_dropOwn) (pc := 63) 10 16 rfl zok_Mo (Nat.le_of_ble_eq_true rfl) (ztb_of k_874 rfl) d_Mo_dropOwn_63 (fun _ _ _ h => h) (hs.get (t := 0) rfl) rfl ?_
      refine zo_iload_n (i := i_Mo_dropOwn) (pc := 66) d_Mo_dropOwn_66 rfl ?_
      refine zo_aload_n (i := i_Mo_dropOwn) (pc := 67) d_Mo_dropOwn_67 rfl rfl ?_
      refine zo_get (i := i_Mo_dropOwn) (pc := 68) 10 16 rfl zok_Mo (Nat.le_of_ble_eq_true rfl) (ztb_of k_874 rfl) d_Mo_dropOwn_68 (fun _ _ _ h => h) (hs.get (t := 0) rfl) rfl ?_
      refine zo_iload_n (i := i_Mo_dropOwn) (pc := 71) d_Mo_dropOwn_71 rfl ?_
      refine zo_iconst (i := i_Mo_dropOwn) (pc := 72) (v := 1) d_Mo_dropOwn_72 (by decide) ?_
      refine zo_iadd (i := i_Mo_dropOwn) (pc := 73) d_Mo_dropOwn_73 ?_
      refine zo_iaload (i := i_Mo_dropOwn) (pc := 74) d_Mo_dropOwn_74 (hs.get (t := 7) rfl) (by rw [nI_1]; exact vp_in_nI (by omega) (by decide)) ?_
      refine zh_iastore (i := i_Mo_dropOwn) (pc := 75) d_Mo_dropOwn_75 hs 7 rfl (vp_in_nI (by omega) (by decide)) fun ws hs => ?_
      refine zo_aload_n (i := i_Mo_dropOwn) (pc := 76) d_Mo_dropOwn_76 rfl rfl ?_
      refine zo_get (i := i_Mo_dropOwn) (pc := 77) 10 17 rfl zok_Mo (Nat.le_of_ble_eq_true rfl) (ztb_of k_875 rfl) d_Mo_dropOwn_77 (fun _ _ _ h => h) (hs.get (t := 0) rfl) rfl ?_
      refine zo_iload_n (i := i_Mo_dropOwn) (pc := 80) d_Mo_dropOwn_80 rfl ?_
      refine zo_aload_n (i := i_Mo_dropOwn) (pc := 81) d_Mo_dropOwn_81 rfl rfl ?_
      refine zo_get (i := i_Mo_dropOwn) (pc := 82) 10 17 rfl zok_Mo (Nat.le_of_ble_eq_true rfl) (ztb_of k_875 rfl) d_Mo_dropOwn_82 (fun _ _ _ h => h) (hs.get (t := 0) rfl) rfl ?_
      refine zo_iload_n (i := i_Mo_dropOwn) (pc := 85) d_Mo_dropOwn_85 rfl ?_
      refine zo_iconst (i := i_Mo_dropOwn) (pc := 86) (v := 1) d_Mo_dropOwn_86 (by decide) ?_
      refine zo_iadd (i := i_Mo_dropOwn) (pc := 87) d_Mo_dropOwn_87 ?_
      refine zo_iaload (i := i_Mo_dropOwn) (pc := 88) d_Mo_dropOwn_88 (hs.get (t := 8) rfl) (by rw [nI_1]; exact vp_in_nI (by omega) (by decide)) ?_
      refine zh_iastore (i := i_Mo_dropOwn) (pc := 89) d_Mo_dropOwn_89 hs 8 rfl (vp_in_nI (by omega) (by decide)) fun ws hs => ?_
      refine zo_iinc (i := i_Mo_dropOwn) (pc := 90) (v := nI (j + 1)) d_Mo_dropOwn_90 rfl (nI_inc j) (Nat.le_of_ble_eq_true rfl) ?_
      refine zo_goto (i := i_Mo_dropOwn) (pc := 93) (tgt := 12) d_Mo_dropOwn_93 (by decide) ?_
      replace hs : zHas ws (moW g B (mup m 12 (nI n)) (mup (mup (mup (mup (mup F 13 (upd (shf (F 13) i j) (nI j).toNatClampNeg (shf (F 13) i j (nI j + 1).toNatClampNeg))) 14 (upd (shf (F 14) i j) (nI j).toNatClampNeg (shf (F 14) i j (nI j + 1).toNatClampNeg))) 15 (upd (shf (F 15) i j) (nI j).toNatClampNeg (shf (F 15) i j (nI j + 1).toNatClampNeg))) 16 (upd (shf (F 16) i j) (nI j).toNatClampNeg (shf (F 16) i j (nI j + 1).toNatClampNeg))) 17 (upd (shf (F 17) i j) (nI j).toNatClampNeg (shf (F 17) i j (nI j + 1).toNatClampNeg))) ++ R) := hs
      simp only [nI_1, nI_clamp (show j < 2 ^ 31 by omega), nI_clamp (show j + 1 < 2 ^ 31 by omega), shf_step hij] at hs
      exact ih (j + 1) (by omega) (by omega) ws hs
  refine zo_aload_n (i := i_Mo_dropOwn) (pc := 0) d_Mo_dropOwn_0 rfl rfl ?_
  refine zo_dup (i := i_Mo_dropOwn) (pc := 1) d_Mo_dropOwn_1 rfl ?_
  refine zo_get (i := i_Mo_dropOwn) (pc := 2) 10 12 rfl zok_Mo (Nat.le_of_ble_eq_true rfl) (ztb_of k_870 rfl) d_Mo_dropOwn_2 (fun _ _ _ h => h) (hs.get (t := 0) rfl) rfl ?_
  refine zo_iconst (i := i_Mo_dropOwn) (pc := 5) (v := 1) d_Mo_dropOwn_5 (by decide) ?_
  refine zo_isub (i := i_Mo_dropOwn) (pc := 6) d_Mo_dropOwn_6 ?_
  refine zh_put (i := i_Mo_dropOwn) (pc := 7) 10 12 rfl zok_Mo (Nat.le_of_ble_eq_true rfl) (ztb_of k_870 rfl) rfl d_Mo_dropOwn_7 (fun _ _ _ h => h) (t_Mo_ok 12 (Nat.le_of_ble_eq_true rfl)) rfl rfl hs 0 rfl (Nat.le_of_ble_eq_true rfl) fun ws hs => ?_
  refine zo_iload_n (i := i_Mo_dropOwn) (pc := 10) d_Mo_dropOwn_10 rfl ?_
  refine zo_istore_n (i := i_Mo_dropOwn) (pc := 11) d_Mo_dropOwn_11 (Nat.le_of_ble_eq_true rfl) ?_
  replace hs : zHas ws (moW g B (mup m 12 (m 12 - 1)) F ++ R) := hs
  rw [hm, nI_pred] at hs
  exact loop (n - i) i (by omega) (Nat.le_refl i) ws (by simp only [shf_0]; exact hs.eq rfl)
theorem c_Mo_dropNeighbour {g : zG} {ws : va_W} {post : Option Value → va_W → Prop} {B : Nat → Nat} {m : Nat → Int32} {F : Nat → Nat → Int32} {R : va_W} (hs : zHas ws (moW g B m F ++ R)) {n i : Nat} (hm : m 18 = nI (n + 1)) (hn : n + 1 ≤ 7) (hi : i ≤ n) (hz : ∀ t, vp_nar .boolean (F 21 t) = F 21 t) (k : ∀ w, zHas w (moW g B (mup m 18 (nI n)) (mup (mup (mup (mup (mup (mup F 19 (shf (F 19) i n)) 20 (shf (F 20) i n)) 21 (shf (F 21) i n)) 22 (shf (F 22) i n)) 23 (shf (F 23) i n)) 24 (shf (F 24) i n)) ++ R) → post none w) : zC g i_Mo_dropNeighbour [.ref (B 0), .int (nI i)] ws post := by
  refine zC.intro (by decide +kernel) rfl (Nat.le_of_ble_eq_true rfl) fun x0 hq => ?_
  have loop : ∀ (d j : Nat), j + d = n → i ≤ j → ∀ ws, zHas ws (moW g B (mup m 18 (nI n)) (mup (mup (mup (mup (mup (mup F 19 (shf (F 19) i j)) 20 (shf (F 20) i j)) 21 (shf (F 21) i j)) 22 (shf (F 22) i j)) 23 (shf (F 23) i j)) 24 (shf (F 24) i j)) ++ R) → zW x0 g i_Mo_dropNeighbour 12 [some (.ref (B 0)), some (.int (nI i)), some (.int (nI j))] [] ws 0 0 := by
    intro d
    induction d with
    | zero =>
      intro j hj hij ws hs
      refine zo_iload_n (i := i_Mo_dropNeighbour) (pc := 12) d_Mo_dropNeighbour_12 rfl ?_
      refine zo_aload_n (i := i_Mo_dropNeighbour) (pc := 13) d_Mo_dropNeighbour_13 rfl rfl ?_
      refine zo_get (i := i_Mo_dropNeighbour) (pc := 14) 10 18 rfl zok_Mo (Nat.le_of_ble_eq_true rfl) (ztb_of k_876 rfl) d_Mo_dropNeighbour_14 (fun _ _ _ h => h) (hs.get (t := 0) rfl) rfl ?_
      refine zo_icmp_ge (i := i_Mo_dropNeighbour) (pc := 17) (tgt := 110) d_Mo_dropNeighbour_17 (by decide) (fun h17 => ?_) (fun h17 => False.elim (by first | exact absurd h17 ((nI_le (show n ≤ j by omega) (by omega))) | exact absurd ((nI_le (show n ≤ j by omega) (by omega))) h17))
      refine zo_return (i := i_Mo_dropNeighbour) (pc := 110) hq d_Mo_dropNeighbour_110 rfl (Nat.le_of_ble_eq_true rfl) (Nat.le_of_ble_eq_true rfl) ?_
      have e : j = n := by omega
      subst e
      exact k ws hs
    | succ d ih =>
      intro j hj hij ws hs
      refine zo_iload_n (i := i_Mo_dropNeighbour) (pc := 12) d_Mo_dropNeighbour_12 rfl ?_
      refine zo_aload_n (i := i_Mo_dropNeighbour) (pc := 13) d_Mo_dropNeighbour_13 rfl rfl ?_
      refine zo_get (i := i_Mo_dropNeighbour) (pc := 14) 10 18 rfl zok_Mo (Nat.le_of_ble_eq_true rfl) (ztb_of k_876 rfl) d_Mo_dropNeighbour_14 (fun _ _ _ h => h) (hs.get (t := 0) rfl) rfl ?_
      refine zo_icmp_ge (i := i_Mo_dropNeighbour) (pc := 17) (tgt := 110) d_Mo_dropNeighbour_17 (by decide) (fun h17 => False.elim (by first | exact absurd h17 ((nI_ge (show j < n by omega) (by omega))) | exact absurd ((nI_ge (show j < n by omega) (by omega))) h17)) (fun h17 => ?_)
      refine zo_aload_n (i := i_Mo_dropNeighbour) (pc := 20) d_Mo_dropNeighbour_20 rfl rfl ?_
      refine zo_get (i := i_Mo_dropNeighbour) (pc := 21) 10 19 rfl zok_Mo (Nat.le_of_ble_eq_true rfl) (ztb_of k_877 rfl) d_Mo_dropNeighbour_21 (fun _ _ _ h => h) (hs.get (t := 0) rfl) rfl ?_
      refine zo_iload_n (i := i_Mo_dropNeighbour) (pc := 24) d_Mo_dropNeighbour_24 rfl ?_
      refine zo_aload_n (i := i_Mo_dropNeighbour) (pc := 25) d_Mo_dropNeighbour_25 rfl rfl ?_
      refine zo_get (i := i_Mo_dropNeighbour) (pc := 26) 10 19 rfl zok_Mo (Nat.le_of_ble_eq_true rfl) (ztb_of k_877 rfl) d_Mo_dropNeighbour_26 (fun _ _ _ h => h) (hs.get (t := 0) rfl) rfl ?_
      refine zo_iload_n (i := i_Mo_dropNeighbour) (pc := 29) d_Mo_dropNeighbour_29 rfl ?_
      refine zo_iconst (i := i_Mo_dropNeighbour) (pc := 30) (v := 1) d_Mo_dropNeighbour_30 (by decide) ?_
      refine zo_iadd (i := i_Mo_dropNeighbour) (pc := 31) d_Mo_dropNeighbour_31 ?_
      refine zo_iaload (i := i_Mo_dropNeighbour) (pc := 32) d_Mo_dropNeighbour_32 (hs.get (t := 9) rfl) (by rw [nI_1]; exact vp_in_nI (by omega) (by decide)) ?_
      refine zh_iastore (i := i_Mo_dropNeighbour) (pc := 33) d_Mo_dropNeighbour_33 hs 9 rfl (vp_in_nI (by omega) (by decide)) fun ws hs => ?_
      refine zo_aload_n (i := i_Mo_dropNeighbour) (pc := 34) d_Mo_dropNeighbour_34 rfl rfl ?_
      refine zo_get (i := i_Mo_dropNeighbour) (pc := 35) 10 20 rfl zok_Mo (Nat.le_of_ble_eq_true rfl) (ztb_of k_878 rfl) d_Mo_dropNeighbour_35 (fun _ _ _ h => h) (hs.get (t := 0) rfl) rfl ?_
      refine zo_iload_n (i := i_Mo_dropNeighbour) (pc := 38) d_Mo_dropNeighbour_38 rfl ?_
      refine zo_aload_n (i := i_Mo_dropNeighbour) (pc := 39) d_Mo_dropNeighbour_39 rfl rfl ?_
      refine zo_get (i := i_Mo_dropNeighbour) (pc := 40) 10 20 rfl zok_Mo (Nat.le_of_ble_eq_true rfl) (ztb_of k_878 rfl) d_Mo_dropNeighbour_40 (fun _ _ _ h => h) (hs.get (t := 0) rfl) rfl ?_
      refine zo_iload_n (i := i_Mo_dropNeighbour) (pc := 43) d_Mo_dropNeighbour_43 rfl ?_
      refine zo_iconst (i := i_Mo_dropNeighbour) (pc := 44) (v := 1) d_Mo_dropNeighbour_44 (by decide) ?_
      refine zo_iadd (i := i_Mo_dropNeighbour) (pc := 45) d_Mo_dropNeighbour_45 ?_
      refine zo_iaload (i := i_Mo_dropNeighbour) (pc := 46) d_Mo_dropNeighbour_46 (hs.get (t := 10) rfl) (by rw [nI_1]; exact vp_in_nI (by omega) (by decide)) ?_
      refine zh_iastore (i := i_Mo_dropNeighbour) (pc := 47) d_Mo_dropNeighbour_47 hs 10 rfl (vp_in_nI (by omega) (by decide)) fun ws hs => ?_
      refine zo_aload_n (i := i_Mo_dropNeighbour) (pc := 48) d_Mo_dropNeighbour_48 rfl rfl ?_
      refine zo_get (i := i_Mo_dropNeighbour) (pc := 49) 10 21 rfl zok_Mo (Nat.le_of_ble_eq_true rfl) (ztb_of k_879 rfl) d_Mo_dropNeighbour_49 (fun _ _ _ h => h) (hs.get (t := 0) rfl) rfl ?_
      refine zo_iload_n (i := i_Mo_dropNeighbour) (pc := 52) d_Mo_dropNeighbour_52 rfl ?_
      refine zo_aload_n (i := i_Mo_dropNeighbour) (pc := 53) d_Mo_dropNeighbour_53 rfl rfl ?_
      refine zo_get (i := i_Mo_dropNeighbour) (pc := 54) 10 21 rfl zok_Mo (Nat.le_of_ble_eq_true rfl) (ztb_of k_879 rfl) d_Mo_dropNeighbour_54 (fun _ _ _ h => h) (hs.get (t := 0) rfl) rfl ?_
      refine zo_iload_n (i := i_Mo_dropNeighbour) (pc := 57) d_Mo_dropNeighbour_57 rfl ?_
      refine zo_iconst (i := i_Mo_dropNeighbour) (pc := 58) (v := 1) d_Mo_dropNeighbour_58 (by decide) ?_
      refine zo_iadd (i := i_Mo_dropNeighbour) (pc := 59) d_Mo_dropNeighbour_59 ?_
      refine zo_zaload (i := i_Mo_dropNeighbour) (pc := 60) d_Mo_dropNeighbour_60 (hs.get (t := 11) rfl) (by rw [nI_1]; exact vp_in_nI (by omega) (by decide)) ?_
      refine zh_zastore (i := i_Mo_dropNeighbour) (pc := 61) d_Mo_dropNeighbour_61 hs 11 rfl (vp_in_nI (by omega) (by decide)) fun ws hs => ?_
      refine zo_aload_n (i := i_Mo_dropNeighbour) (pc := 62) d_Mo_dropNeighbour_62 rfl rfl ?_
      refine zo_get (i := i_Mo_dropNeighbour) (pc := 63) 10 22 rfl zok_Mo (Nat.le_of_ble_eq_true rfl) (ztb_of k_880 rfl) d_Mo_dropNeighbour_63 (fun _ _ _ h => h) (hs.get (t := 0) rfl) rfl ?_
      refine zo_iload_n (i := i_Mo_dropNeighbour) (pc := 66) d_Mo_dropNeighbour_66 rfl ?_
      refine zo_aload_n (i := i_Mo_dropNeighbour) (pc := 67) d_Mo_dropNeighbour_67 rfl rfl ?_
      refine zo_get (i := i_Mo_dropNeighbour) (pc := 68) 10 22 rfl zok_Mo (Nat.le_of_ble_eq_true rfl) (ztb_of k_880 rfl) d_Mo_dropNeighbour_68 (fun _ _ _ h => h) (hs.get (t := 0) rfl) rfl ?_
      refine zo_iload_n (i := i_Mo_dropNeighbour) (pc := 71) d_Mo_dropNeighbour_71 rfl ?_
      refine zo_iconst (i := i_Mo_dropNeighbour) (pc := 72) (v := 1) d_Mo_dropNeighbour_72 (by decide) ?_
      refine zo_iadd (i := i_Mo_dropNeighbour) (pc := 73) d_Mo_dropNeighbour_73 ?_
      refine zo_iaload (i := i_Mo_dropNeighbour) (pc := 74) d_Mo_dropNeighbour_74 (hs.get (t := 12) rfl) (by rw [nI_1]; exact vp_in_nI (by omega) (by decide)) ?_
      refine zh_iastore (i := i_Mo_dropNeighbour) (pc := 75) d_Mo_dropNeighbour_75 hs 12 rfl (vp_in_nI (by omega) (by decide)) fun ws hs => ?_
      refine zo_aload_n (i := i_Mo_dropNeighbour) (pc := 76) d_Mo_dropNeighbour_76 rfl rfl ?_
      refine zo_get (i := i_Mo_dropNeighbour) (pc := 77) 10 23 rfl zok_Mo (Nat.le_of_ble_eq_true rfl) (ztb_of k_881 rfl) d_Mo_dropNeighbour_77 (fun _ _ _ h => h) (hs.get (t := 0) rfl) rfl ?_
      refine zo_iload_n (i := i_Mo_dropNeighbour) (pc := 80) d_Mo_dropNeighbour_80 rfl ?_
      refine zo_aload_n (i := i_Mo_dropNeighbour) (pc := 81) d_Mo_dropNeighbour_81 rfl rfl ?_
      refine zo_get (i := i_Mo_dropNeighbour) (pc := 82) 10 23 rfl zok_Mo (Nat.le_of_ble_eq_true rfl) (ztb_of k_881 rfl) d_Mo_dropNeighbour_82 (fun _ _ _ h => h) (hs.get (t := 0) rfl) rfl ?_
      refine zo_iload_n (i := i_Mo_dropNeighbour) (pc := 85) d_Mo_dropNeighbour_85 rfl ?_
      refine zo_iconst (i := i_Mo_dropNeighbour) (pc := 86) (v := 1) d_Mo_dropNeighbour_86 (by decide) ?_
      refine zo_iadd (i := i_Mo_dropNeighbour) (pc := 87) d_Mo_dropNeighbour_87 ?_
      refine zo_iaload (i := i_Mo_dropNeighbour) (pc := 88) d_Mo_dropNeighbour_88 (hs.get (t := 13) rfl) (by rw [nI_1]; exact vp_in_nI (by omega) (by decide)) ?_
      refine zh_iastore (i := i_Mo_dropNeighbour) (pc := 89) d_Mo_dropNeighbour_89 hs 13 rfl (vp_in_nI (by omega) (by decide)) fun ws hs => ?_
      refine zo_aload_n (i := i_Mo_dropNeighbour) (pc := 90) d_Mo_dropNeighbour_90 rfl rfl ?_
      refine zo_get (i := i_Mo_dropNeighbour) (pc := 91) 10 24 rfl zok_Mo (Nat.le_of_ble_eq_true rfl) (ztb_of k_882 rfl) d_Mo_dropNeighbour_91 (fun _ _ _ h => h) (hs.get (t := 0) rfl) rfl ?_
      refine zo_iload_n (i := i_Mo_dropNeighbour) (pc := 94) d_Mo_dropNeighbour_94 rfl ?_
      refine zo_aload_n (i := i_Mo_dropNeighbour) (pc := 95) d_Mo_dropNeighbour_95 rfl rfl ?_
      refine zo_get (i := i_Mo_dropNeighbour) (pc := 96) 10 24 rfl zok_Mo (Nat.le_of_ble_eq_true rfl) (ztb_of k_882 rfl) d_Mo_dropNeighbour_96 (fun _ _ _ h => h) (hs.get (t := 0) rfl) rfl ?_
      refine zo_iload_n (i := i_Mo_dropNeighbour) (pc := 99) d_Mo_dropNeighbour_99 rfl ?_
      refine zo_iconst (i := i_Mo_dropNeighbour) (pc := 100) (v := 1) d_Mo_dropNeighbour_100 (by decide) ?_
      refine zo_iadd (i := i_Mo_dropNeighbour) (pc := 101) d_Mo_dropNeighbour_101 ?_
      refine zo_iaload (i := i_Mo_dropNeighbour) (pc := 102) d_Mo_dropNeighbour_102 (hs.get (t := 14) rfl) (by rw [nI_1]; exact vp_in_nI (by omega) (by decide)) ?_
      refine zh_iastore (i := i_Mo_dropNeighbour) (pc := 103) d_Mo_dropNeighbour_103 hs 14 rfl (vp_in_nI (by omega) (by decide)) fun ws hs => ?_
      refine zo_iinc (i := i_Mo_dropNeighbour) (pc := 104) (v := nI (j + 1)) d_Mo_dropNeighbour_104 rfl (nI_inc j) (Nat.le_of_ble_eq_true rfl) ?_
      refine zo_goto (i := i_Mo_dropNeighbour) (pc := 107) (tgt := 12) d_Mo_dropNeighbour_107 (by decide) ?_
      replace hs : zHas ws (moW g B (mup m 18 (nI n)) (mup (mup (mup (mup (mup (mup F 19 (upd (shf (F 19) i j) (nI j).toNatClampNeg (shf (F 19) i j (nI j + 1).toNatClampNeg))) 20 (upd (shf (F 20) i j) (nI j).toNatClampNeg (shf (F 20) i j (nI j + 1).toNatClampNeg))) 21 (upd (shf (F 21) i j) (nI j).toNatClampNeg (vp_nar .boolean (shf (F 21) i j (nI j + 1).toNatClampNeg)))) 22 (upd (shf (F 22) i j) (nI j).toNatClampNeg (shf (F 22) i j (nI j + 1).toNatClampNeg))) 23 (upd (shf (F 23) i j) (nI j).toNatClampNeg (shf (F 23) i j (nI j + 1).toNatClampNeg))) 24 (upd (shf (F 24) i j) (nI j).toNatClampNeg (shf (F 24) i j (nI j + 1).toNatClampNeg))) ++ R) := hs
      simp only [nI_1, nI_clamp (show j < 2 ^ 31 by omega), nI_clamp (show j + 1 < 2 ^ 31 by omega), shf_nar hz, shf_step hij] at hs
      exact ih (j + 1) (by omega) (by omega) ws hs
  refine zo_aload_n (i := i_Mo_dropNeighbour) (pc := 0) d_Mo_dropNeighbour_0 rfl rfl ?_
  refine zo_dup (i := i_Mo_dropNeighbour) (pc := 1) d_Mo_dropNeighbour_1 rfl ?_
  refine zo_get (i := i_Mo_dropNeighbour) (pc := 2) 10 18 rfl zok_Mo (Nat.le_of_ble_eq_true rfl) (ztb_of k_876 rfl) d_Mo_dropNeighbour_2 (fun _ _ _ h => h) (hs.get (t := 0) rfl) rfl ?_
  refine zo_iconst (i := i_Mo_dropNeighbour) (pc := 5) (v := 1) d_Mo_dropNeighbour_5 (by decide) ?_
  refine zo_isub (i := i_Mo_dropNeighbour) (pc := 6) d_Mo_dropNeighbour_6 ?_
  refine zh_put (i := i_Mo_dropNeighbour) (pc := 7) 10 18 rfl zok_Mo (Nat.le_of_ble_eq_true rfl) (ztb_of k_876 rfl) rfl d_Mo_dropNeighbour_7 (fun _ _ _ h => h) (t_Mo_ok 18 (Nat.le_of_ble_eq_true rfl)) rfl rfl hs 0 rfl (Nat.le_of_ble_eq_true rfl) fun ws hs => ?_
  refine zo_iload_n (i := i_Mo_dropNeighbour) (pc := 10) d_Mo_dropNeighbour_10 rfl ?_
  refine zo_istore_n (i := i_Mo_dropNeighbour) (pc := 11) d_Mo_dropNeighbour_11 (Nat.le_of_ble_eq_true rfl) ?_
  replace hs : zHas ws (moW g B (mup m 18 (m 18 - 1)) F ++ R) := hs
  rw [hm, nI_pred] at hs
  exact loop (n - i) i (by omega) (Nat.le_refl i) ws (by simp only [shf_0]; exact hs.eq rfl)
