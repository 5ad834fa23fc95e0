/-! The model: sending, turning, addresses (walks by a program, gen51.py). -/
theorem irem_nat {a c : Int32} {A C : Nat} (ha : a.toInt = (A : Int)) (hc : c.toInt = (C : Int)) (h0 : 0 < C) : (a - a / c * c).toInt = ((A % C : Nat) : Int) := by
  have hA : (A : Int) < 2147483648 := by rw [← ha]; exact Int32.toInt_lt a
  have h1 : A / C ≤ A := Nat.div_le_self A C
  have h2 : A / C * C ≤ A := Nat.div_mul_le_self A C
  have key : ∀ D : Nat, D ≤ A → ((D : Int)).bmod (2 ^ 32) = D := fun D hD => Int.bmod_eq_of_le (by omega) (by omega)
  have key2 : ∀ D : Nat, D ≤ A → ((A : Int) - (D : Int)).bmod (2 ^ 32) = (A : Int) - D := fun D hD => Int.bmod_eq_of_le (by omega) (by omega)
  have hd : (a / c).toInt = ((A / C : Nat) : Int) := by
    rw [Int32.toInt_div, ha, hc, Int.tdiv_eq_ediv_of_nonneg (by omega), ← Int.natCast_ediv, key _ h1]
  have hm : (a / c * c).toInt = ((A / C * C : Nat) : Int) := by
    rw [Int32.toInt_mul, hd, hc, ← Int.natCast_mul, key _ h2]
  rw [Int32.toInt_sub, ha, hm, key2 _ h2]
  have h3 := Nat.div_add_mod A C
  rw [Nat.mul_comm] at h3
  generalize A / C * C = E at *
  generalize A % C = r at *
  omega
theorem nI_rem {s : Nat} (h : s < 2147483648) : nI s - nI s / 12 * 12 = nI (s % 12) := by
  apply Int32.toInt_inj.mp
  rw [irem_nat (C := 12) (nI_toInt (by omega)) (by decide) (by decide), nI_toInt (by omega)]
theorem zaddr_range {a : Int32} (h : zaddr a = true) : ¬ a < 0 ∧ ¬ 65536 ≤ a := by
  have h1 : zwithin (a / 256) 1 250 = true := by
    unfold zaddr at h
    exact (Bool.and_eq_true_iff.mp h).1
  simp only [zwithin, Bool.and_eq_true, Bool.not_eq_true', decide_eq_false_iff_not, Int32.lt_iff_toInt_lt] at h1
  have e1 : (1 : Int32).toInt = 1 := by decide
  have e2 : (250 : Int32).toInt = 250 := by decide
  have e3 : (256 : Int32).toInt = 256 := by decide
  have e4 : (65536 : Int32).toInt = 65536 := by decide
  have lo := Int32.le_toInt a
  have hi := Int32.toInt_lt a
  rw [e1, e2, Int32.toInt_div, e3] at h1
  rw [Int32.lt_iff_toInt_lt, Int32.le_iff_toInt_le, Int32.toInt_zero, e4]
  by_cases hn : a.toInt < 0
  · exfalso
    obtain ⟨k, hk⟩ : ∃ k : Int, a.toInt = -k := ⟨-a.toInt, by omega⟩
    rw [hk, Int.neg_tdiv, Int.tdiv_eq_ediv_of_nonneg (by omega), Int.bmod_eq_of_le (by omega) (by omega)] at h1
    omega
  · rw [Int.tdiv_eq_ediv_of_nonneg (by omega), Int.bmod_eq_of_le (by omega) (by omega)] at h1
    omega
theorem c_Mo_out {g : zG} {ws : va_W} {post : Option Value → va_W → Prop} {B : Nat → Nat} {m : Nat → Int32} {F : Nat → Nat → Int32} {R : va_W} (hs : zHas ws (moW g B m F ++ R)) {s : Nat} {a b c : Int32} (hm : m 8 = nI s) (h8 : s < 2147483648) (k : ∀ w, zHas w (moW g B (mup m 8 (nI (s + 1))) (mup (mup (mup F 9 (upd (F 9) (s % 12) a)) 10 (upd (F 10) (s % 12) b)) 11 (upd (F 11) (s % 12) c)) ++ R) → post none w) : zC g i_Mo_out [.ref (B 0), .int a, .int b, .int c] ws post := by
  refine zC.intro (by decide +kernel) rfl (Nat.le_of_ble_eq_true rfl) fun x0 hq => ?_
  refine zo_aload_n (i := i_Mo_out) (pc := 0) d_Mo_out_0 rfl rfl ?_
  refine zo_get (i := i_Mo_out) (pc := 1) 10 8 rfl zok_Mo (Nat.le_of_ble_eq_true rfl) (ztb_of k_866 rfl) d_Mo_out_1 (fun _ _ _ h => h) (hs.get (t := 0) rfl) rfl ?_
  refine zo_bipush (i := i_Mo_out) (pc := 4) (v := 12) d_Mo_out_4 (by decide) ?_
  refine zo_irem (i := i_Mo_out) (pc := 6) d_Mo_out_6 (by decide) ?_
  refine zo_istore (i := i_Mo_out) (pc := 7) d_Mo_out_7 (Nat.le_of_ble_eq_true rfl) ?_
  refine zo_aload_n (i := i_Mo_out) (pc := 9) d_Mo_out_9 rfl rfl ?_
  refine zo_get (i := i_Mo_out) (pc := 10) 10 9 rfl zok_Mo (Nat.le_of_ble_eq_true rfl) (ztb_of k_867 rfl) d_Mo_out_10 (fun _ _ _ h => h) (hs.get (t := 0) rfl) rfl ?_
  refine zo_iload (i := i_Mo_out) (pc := 13) d_Mo_out_13 rfl ?_
  refine zo_iload_n (i := i_Mo_out) (pc := 15) d_Mo_out_15 rfl ?_
  refine zh_iastore (i := i_Mo_out) (pc := 16) d_Mo_out_16 hs 1 rfl (by rw [hm, nI_rem h8]; exact vp_in_nI (Nat.mod_lt _ (by decide)) (by decide)) fun ws hs => ?_
  refine zo_aload_n (i := i_Mo_out) (pc := 17) d_Mo_out_17 rfl rfl ?_
  refine zo_get (i := i_Mo_out) (pc := 18) 10 10 rfl zok_Mo (Nat.le_of_ble_eq_true rfl) (ztb_of k_868 rfl) d_Mo_out_18 (fun _ _ _ h => h) (hs.get (t := 0) rfl) rfl ?_
  refine zo_iload (i := i_Mo_out) (pc := 21) d_Mo_out_21 rfl ?_
  refine zo_iload_n (i := i_Mo_out) (pc := 23) d_Mo_out_23 rfl ?_
  refine zh_iastore (i := i_Mo_out) (pc := 24) d_Mo_out_24 hs 2 rfl (by rw [hm, nI_rem h8]; exact vp_in_nI (Nat.mod_lt _ (by decide)) (by decide)) fun ws hs => ?_
  refine zo_aload_n (i := i_Mo_out) (pc := 25) d_Mo_out_25 rfl rfl ?_
  refine zo_get (i := i_Mo_out) (pc := 26) 10 11 rfl zok_Mo (Nat.le_of_ble_eq_true rfl) (ztb_of k_869 rfl) d_Mo_out_26 (fun _ _ _ h => h) (hs.get (t := 0) rfl) rfl ?_
  refine zo_iload (i := i_Mo_out) (pc := 29) d_Mo_out_29 rfl ?_
  refine zo_iload_n (i := i_Mo_out) (pc := 31) d_Mo_out_31 rfl ?_
  refine zh_iastore (i := i_Mo_out) (pc := 32) d_Mo_out_32 hs 3 rfl (by rw [hm, nI_rem h8]; exact vp_in_nI (Nat.mod_lt _ (by decide)) (by decide)) fun ws hs => ?_
  refine zo_aload_n (i := i_Mo_out) (pc := 33) d_Mo_out_33 rfl rfl ?_
  refine zo_dup (i := i_Mo_out) (pc := 34) d_Mo_out_34 rfl ?_
  refine zo_get (i := i_Mo_out) (pc := 35) 10 8 rfl zok_Mo (Nat.le_of_ble_eq_true rfl) (ztb_of k_866 rfl) d_Mo_out_35 (fun _ _ _ h => h) (hs.get (t := 0) rfl) rfl ?_
  refine zo_iconst (i := i_Mo_out) (pc := 38) (v := 1) d_Mo_out_38 (by decide) ?_
  refine zo_iadd (i := i_Mo_out) (pc := 39) d_Mo_out_39 ?_
  refine zh_put (i := i_Mo_out) (pc := 40) 10 8 rfl zok_Mo (Nat.le_of_ble_eq_true rfl) (ztb_of k_866 rfl) rfl d_Mo_out_40 (fun _ _ _ h => h) (t_Mo_ok 8 (Nat.le_of_ble_eq_true rfl)) rfl rfl hs 0 rfl (Nat.le_of_ble_eq_true rfl) fun ws hs => ?_
  refine zo_return (i := i_Mo_out) (pc := 43) hq d_Mo_out_43 rfl (Nat.le_of_ble_eq_true rfl) (Nat.le_of_ble_eq_true rfl) ?_
  replace hs : zHas ws (moW g B (mup m 8 (nI (s + 1))) (mup (mup (mup F 9 (upd (F 9) (s % 12) a)) 10 (upd (F 10) (s % 12) b)) 11 (upd (F 11) (s % 12) c)) ++ R) := hs.eq (by
    simp only [hm, nI_rem h8, nI_clamp (show s % 12 < 2 ^ 31 by omega), nI_1]
    rfl)
  exact k ws hs
