/-! The model: its cells; small methods (walks by a program, gen50.py). -/
section ZModel
/-- the fields of the model: numbers by place, rows by place -/
def moF (B : Nat → Nat) (m : Nat → Int32) : List Value := [.int (m 0), .int (m 1), .int (m 2), .int (m 3), .int (m 4), .int (m 5), .int (m 6), .int (m 7), .int (m 8), .ref (B 9), .ref (B 10), .ref (B 11), .int (m 12), .ref (B 13), .ref (B 14), .ref (B 15), .ref (B 16), .ref (B 17), .int (m 18), .ref (B 19), .ref (B 20), .ref (B 21), .ref (B 22), .ref (B 23), .ref (B 24), .ref (B 25), .ref (B 26), .ref (B 27), .ref (B 28), .int (m 29), .ref (B 30), .ref (B 31)]
/-- the cells of the model: the object and its twenty rows -/
def moW (g : zG) (B : Nat → Nat) (m : Nat → Int32) (F : Nat → Nat → Int32) : va_W := [(B 0, .inr (10, moF B m)), (B 9, .inl (g.2.2.1.1, 12, .inl (F 9))), (B 10, .inl (g.2.2.1.1, 12, .inl (F 10))), (B 11, .inl (g.2.2.1.1, 12, .inl (F 11))), (B 13, .inl (g.2.2.1.1, 6, .inl (F 13))), (B 14, .inl (g.2.2.1.1, 6, .inl (F 14))), (B 15, .inl (g.2.2.1.1, 6, .inl (F 15))), (B 16, .inl (g.2.2.1.1, 6, .inl (F 16))), (B 17, .inl (g.2.2.1.1, 6, .inl (F 17))), (B 19, .inl (g.2.2.1.1, 7, .inl (F 19))), (B 20, .inl (g.2.2.1.1, 7, .inl (F 20))), (B 21, .inl (g.2.2.1.2.2.2.1, 7, .inl (F 21))), (B 22, .inl (g.2.2.1.1, 7, .inl (F 22))), (B 23, .inl (g.2.2.1.1, 7, .inl (F 23))), (B 24, .inl (g.2.2.1.1, 7, .inl (F 24))), (B 25, .inl (g.2.2.1.1, 3, .inl (F 25))), (B 26, .inl (g.2.2.1.1, 24, .inl (F 26))), (B 27, .inl (g.2.2.1.1, 24, .inl (F 27))), (B 28, .inl (g.2.2.1.1, 24, .inl (F 28))), (B 30, .inl (g.2.2.1.1, 6, .inl (F 30))), (B 31, .inl (g.2.2.1.1, 6, .inl (F 31)))]
def mup {α : Type} (f : Nat → α) (k : Nat) (v : α) : Nat → α := fun j => if j = k then v else f j
end ZModel
theorem c_Mo_thrown {g : zG} {ws : va_W} {post : Option Value → va_W → Prop} {B : Nat → Nat} {m : Nat → Int32} {F : Nat → Nat → Int32} {R : va_W} (hs : zHas ws (moW g B m F ++ R)) (k : post (some (.int (m 0))) ws) : zC g i_Mo_thrown [.ref (B 0)] ws post := by
  refine zC.intro (by decide +kernel) rfl (Nat.le_of_ble_eq_true rfl) fun x0 hq => ?_
  refine zo_aload_n (i := i_Mo_thrown) (pc := 0) d_Mo_thrown_0 rfl rfl ?_
  refine zo_get (i := i_Mo_thrown) (pc := 1) 10 0 rfl zok_Mo (Nat.le_of_ble_eq_true rfl) (ztb_of k_858 rfl) d_Mo_thrown_1 (fun _ _ _ h => h) (hs.get (t := 0) rfl) rfl ?_
  refine zo_ireturn (i := i_Mo_thrown) (pc := 4) hq d_Mo_thrown_4 rfl (Nat.le_of_ble_eq_true rfl) (Nat.le_of_ble_eq_true rfl) ?_
  exact k
theorem c_Mo_end {g : zG} {ws : va_W} {post : Option Value → va_W → Prop} {B : Nat → Nat} {m : Nat → Int32} {F : Nat → Nat → Int32} {R : va_W} (hs : zHas ws (moW g B m F ++ R)) {v : Int32} (k : post (some (.int (if v = 1000 then 2000000000 else m 2 + v))) ws) : zC g i_Mo_end [.ref (B 0), .int v] ws post := by
  refine zC.intro (by decide +kernel) rfl (Nat.le_of_ble_eq_true rfl) fun x0 hq => ?_
  refine zo_iload_n (i := i_Mo_end) (pc := 0) d_Mo_end_0 rfl ?_
  refine zo_sipush (i := i_Mo_end) (pc := 1) (v := 1000) d_Mo_end_1 (by decide) ?_
  refine zo_icmp_ne (i := i_Mo_end) (pc := 4) (tgt := 12) d_Mo_end_4 (by decide) (fun h4 => ?_) (fun h4 => ?_)
  · refine zo_aload_n (i := i_Mo_end) (pc := 12) d_Mo_end_12 rfl rfl ?_
    refine zo_get (i := i_Mo_end) (pc := 13) 10 2 rfl zok_Mo (Nat.le_of_ble_eq_true rfl) (ztb_of k_860 rfl) d_Mo_end_13 (fun _ _ _ h => h) (hs.get (t := 0) rfl) rfl ?_
    refine zo_iload_n (i := i_Mo_end) (pc := 16) d_Mo_end_16 rfl ?_
    refine zo_iadd (i := i_Mo_end) (pc := 17) d_Mo_end_17 ?_
    refine zo_ireturn (i := i_Mo_end) (pc := 18) hq d_Mo_end_18 rfl (Nat.le_of_ble_eq_true rfl) (Nat.le_of_ble_eq_true rfl) ?_
    first | (rw [if_pos h4] at k; exact k) | (rw [if_neg h4] at k; exact k)
  · refine zo_ldc (i := i_Mo_end) (pc := 7) d_Mo_end_7 (ztb_of k_852 rfl) ?_
    refine zo_goto (i := i_Mo_end) (pc := 9) (tgt := 18) d_Mo_end_9 (by decide) ?_
    refine zo_ireturn (i := i_Mo_end) (pc := 18) hq d_Mo_end_18 rfl (Nat.le_of_ble_eq_true rfl) (Nat.le_of_ble_eq_true rfl) ?_
    first | (rw [if_pos h4] at k; exact k) | (rw [if_neg h4] at k; exact k)
theorem c_Mo_isNumber {g : zG} {ws : va_W} {post : Option Value → va_W → Prop} {o : Nat} {v : Int32} (k : post (some (.int (zb (zwithin v 1 99)))) ws) : zC g i_Mo_isNumber [.ref o, .int v] ws post := by
  refine zC.intro (by decide +kernel) rfl (Nat.le_of_ble_eq_true rfl) fun x0 hq => ?_
  refine zo_iload_n (i := i_Mo_isNumber) (pc := 0) d_Mo_isNumber_0 rfl ?_
  refine zo_iconst (i := i_Mo_isNumber) (pc := 1) (v := 1) d_Mo_isNumber_1 (by decide) ?_
  refine zo_icmp_lt (i := i_Mo_isNumber) (pc := 2) (tgt := 15) d_Mo_isNumber_2 (by decide) (fun h2 => ?_) (fun h2 => ?_)
  · refine zo_iconst (i := i_Mo_isNumber) (pc := 15) (v := 0) d_Mo_isNumber_15 (by decide) ?_
    refine zo_zreturn (i := i_Mo_isNumber) (pc := 16) hq d_Mo_isNumber_16 rfl rfl (Nat.le_of_ble_eq_true rfl) (Nat.le_of_ble_eq_true rfl) ?_
    first | (simp [zwithin, h2, h8, zb] at k; exact k) | (simp [zwithin, h2, zb] at k; exact k)
  · refine zo_iload_n (i := i_Mo_isNumber) (pc := 5) d_Mo_isNumber_5 rfl ?_
    refine zo_bipush (i := i_Mo_isNumber) (pc := 6) (v := 99) d_Mo_isNumber_6 (by decide) ?_
    refine zo_icmp_gt (i := i_Mo_isNumber) (pc := 8) (tgt := 15) d_Mo_isNumber_8 (by decide) (fun h8 => ?_) (fun h8 => ?_)
    · refine zo_iconst (i := i_Mo_isNumber) (pc := 15) (v := 0) d_Mo_isNumber_15 (by decide) ?_
      refine zo_zreturn (i := i_Mo_isNumber) (pc := 16) hq d_Mo_isNumber_16 rfl rfl (Nat.le_of_ble_eq_true rfl) (Nat.le_of_ble_eq_true rfl) ?_
      first | (simp [zwithin, h2, h8, zb] at k; exact k) | (simp [zwithin, h2, zb] at k; exact k)
    · refine zo_iconst (i := i_Mo_isNumber) (pc := 11) (v := 1) d_Mo_isNumber_11 (by decide) ?_
      refine zo_goto (i := i_Mo_isNumber) (pc := 12) (tgt := 16) d_Mo_isNumber_12 (by decide) ?_
      refine zo_zreturn (i := i_Mo_isNumber) (pc := 16) hq d_Mo_isNumber_16 rfl rfl (Nat.le_of_ble_eq_true rfl) (Nat.le_of_ble_eq_true rfl) ?_
      first | (simp [zwithin, h2, h8, zb] at k; exact k) | (simp [zwithin, h2, zb] at k; exact k)
theorem c_Mo_isLocal {g : zG} {ws : va_W} {post : Option Value → va_W → Prop} {o : Nat} {a : Int32} (k : post (some (.int (zb (zlocal a)))) ws) : zC g i_Mo_isLocal [.ref o, .int a] ws post := by
  refine zC.intro (by decide +kernel) rfl (Nat.le_of_ble_eq_true rfl) fun x0 hq => ?_
  refine zo_iload_n (i := i_Mo_isLocal) (pc := 0) d_Mo_isLocal_0 rfl ?_
  refine zo_sipush (i := i_Mo_isLocal) (pc := 1) (v := 256) d_Mo_isLocal_1 (by decide) ?_
  refine zo_idiv (i := i_Mo_isLocal) (pc := 4) d_Mo_isLocal_4 (by decide) ?_
  refine zo_iconst (i := i_Mo_isLocal) (pc := 5) (v := 1) d_Mo_isLocal_5 (by decide) ?_
  refine zo_icmp_ne (i := i_Mo_isLocal) (pc := 6) (tgt := 13) d_Mo_isLocal_6 (by decide) (fun h6 => ?_) (fun h6 => ?_)
  · refine zo_iconst (i := i_Mo_isLocal) (pc := 13) (v := 0) d_Mo_isLocal_13 (by decide) ?_
    refine zo_zreturn (i := i_Mo_isLocal) (pc := 14) hq d_Mo_isLocal_14 rfl rfl (Nat.le_of_ble_eq_true rfl) (Nat.le_of_ble_eq_true rfl) ?_
    first | (rw [zlocal, decide_eq_true h6] at k; exact k) | (rw [zlocal, decide_eq_false h6] at k; exact k)
  · refine zo_iconst (i := i_Mo_isLocal) (pc := 9) (v := 1) d_Mo_isLocal_9 (by decide) ?_
    refine zo_goto (i := i_Mo_isLocal) (pc := 10) (tgt := 14) d_Mo_isLocal_10 (by decide) ?_
    refine zo_zreturn (i := i_Mo_isLocal) (pc := 14) hq d_Mo_isLocal_14 rfl rfl (Nat.le_of_ble_eq_true rfl) (Nat.le_of_ble_eq_true rfl) ?_
    first | (rw [zlocal, decide_eq_true h6] at k; exact k) | (rw [zlocal, decide_eq_false h6] at k; exact k)
theorem c_Mo_noOwn {g : zG} {ws : va_W} {post : Option Value → va_W → Prop} {B : Nat → Nat} {m : Nat → Int32} {F : Nat → Nat → Int32} {R : va_W} (hs : zHas ws (moW g B m F ++ R)) {j : Int32} (k : post (some (.int (zb (!(!decide (j < 0) && decide (j < m 12)))))) ws) : zC g i_Mo_noOwn [.ref (B 0), .int j] ws post := by
  refine zC.intro (by decide +kernel) rfl (Nat.le_of_ble_eq_true rfl) fun x0 hq => ?_
  refine zo_iload_n (i := i_Mo_noOwn) (pc := 0) d_Mo_noOwn_0 rfl ?_
  refine zo_if_lt (i := i_Mo_noOwn) (pc := 1) (tgt := 12) d_Mo_noOwn_1 (by decide) (fun h1 => ?_) (fun h1 => ?_)
  · refine zo_iconst (i := i_Mo_noOwn) (pc := 12) (v := 1) d_Mo_noOwn_12 (by decide) ?_
    refine zo_goto (i := i_Mo_noOwn) (pc := 13) (tgt := 17) d_Mo_noOwn_13 (by decide) ?_
    refine zo_zreturn (i := i_Mo_noOwn) (pc := 17) hq d_Mo_noOwn_17 rfl rfl (Nat.le_of_ble_eq_true rfl) (Nat.le_of_ble_eq_true rfl) ?_
    first | (simp [h1, h9, zb] at k; exact k) | (simp [h1, zb] at k; exact k)
  · refine zo_iload_n (i := i_Mo_noOwn) (pc := 4) d_Mo_noOwn_4 rfl ?_
    refine zo_aload_n (i := i_Mo_noOwn) (pc := 5) d_Mo_noOwn_5 rfl rfl ?_
    refine zo_get (i := i_Mo_noOwn) (pc := 6) 10 12 rfl zok_Mo (Nat.le_of_ble_eq_true rfl) (ztb_of k_870 rfl) d_Mo_noOwn_6 (fun _ _ _ h => h) (hs.get (t := 0) rfl) rfl ?_
    refine zo_icmp_lt (i := i_Mo_noOwn) (pc := 9) (tgt := 16) d_Mo_noOwn_9 (by decide) (fun h9 => ?_) (fun h9 => ?_)
    · refine zo_iconst (i := i_Mo_noOwn) (pc := 16) (v := 0) d_Mo_noOwn_16 (by decide) ?_
      refine zo_zreturn (i := i_Mo_noOwn) (pc := 17) hq d_Mo_noOwn_17 rfl rfl (Nat.le_of_ble_eq_true rfl) (Nat.le_of_ble_eq_true rfl) ?_
      first | (simp [h1, h9, zb] at k; exact k) | (simp [h1, zb] at k; exact k)
    · refine zo_iconst (i := i_Mo_noOwn) (pc := 12) (v := 1) d_Mo_noOwn_12 (by decide) ?_
      refine zo_goto (i := i_Mo_noOwn) (pc := 13) (tgt := 17) d_Mo_noOwn_13 (by decide) ?_
      refine zo_zreturn (i := i_Mo_noOwn) (pc := 17) hq d_Mo_noOwn_17 rfl rfl (Nat.le_of_ble_eq_true rfl) (Nat.le_of_ble_eq_true rfl) ?_
      first | (simp [h1, h9, zb] at k; exact k) | (simp [h1, zb] at k; exact k)
theorem c_Mo_noOut {g : zG} {ws : va_W} {post : Option Value → va_W → Prop} {B : Nat → Nat} {m : Nat → Int32} {F : Nat → Nat → Int32} {R : va_W} (hs : zHas ws (moW g B m F ++ R)) {j : Int32} (k : post (some (.int (zb (!(!decide (j < 0) && !decide (11 < j) && decide (j < m 8)))))) ws) : zC g i_Mo_noOut [.ref (B 0), .int j] ws post := by
  refine zC.intro (by decide +kernel) rfl (Nat.le_of_ble_eq_true rfl) fun x0 hq => ?_
  refine zo_iload_n (i := i_Mo_noOut) (pc := 0) d_Mo_noOut_0 rfl ?_
  refine zo_if_lt (i := i_Mo_noOut) (pc := 1) (tgt := 18) d_Mo_noOut_1 (by decide) (fun h1 => ?_) (fun h1 => ?_)
  · refine zo_iconst (i := i_Mo_noOut) (pc := 18) (v := 1) d_Mo_noOut_18 (by decide) ?_
    refine zo_goto (i := i_Mo_noOut) (pc := 19) (tgt := 23) d_Mo_noOut_19 (by decide) ?_
    refine zo_zreturn (i := i_Mo_noOut) (pc := 23) hq d_Mo_noOut_23 rfl rfl (Nat.le_of_ble_eq_true rfl) (Nat.le_of_ble_eq_true rfl) ?_
    first | (simp [h1, h7, h15, zb] at k; exact k) | (simp [h1, h7, zb] at k; exact k) | (simp [h1, zb] at k; exact k)
  · refine zo_iload_n (i := i_Mo_noOut) (pc := 4) d_Mo_noOut_4 rfl ?_
    refine zo_bipush (i := i_Mo_noOut) (pc := 5) (v := 11) d_Mo_noOut_5 (by decide) ?_
    refine zo_icmp_gt (i := i_Mo_noOut) (pc := 7) (tgt := 18) d_Mo_noOut_7 (by decide) (fun h7 => ?_) (fun h7 => ?_)
    · refine zo_iconst (i := i_Mo_noOut) (pc := 18) (v := 1) d_Mo_noOut_18 (by decide) ?_
      refine zo_goto (i := i_Mo_noOut) (pc := 19) (tgt := 23) d_Mo_noOut_19 (by decide) ?_
      refine zo_zreturn (i := i_Mo_noOut) (pc := 23) hq d_Mo_noOut_23 rfl rfl (Nat.le_of_ble_eq_true rfl) (Nat.le_of_ble_eq_true rfl) ?_
      first | (simp [h1, h7, h15, zb] at k; exact k) | (simp [h1, h7, zb] at k; exact k) | (simp [h1, zb] at k; exact k)
    · refine zo_iload_n (i := i_Mo_noOut) (pc := 10) d_Mo_noOut_10 rfl ?_
      refine zo_aload_n (i := i_Mo_noOut) (pc := 11) d_Mo_noOut_11 rfl rfl ?_
      refine zo_get (i := i_Mo_noOut) (pc := 12) 10 8 rfl zok_Mo (Nat.le_of_ble_eq_true rfl) (ztb_of k_866 rfl) d_Mo_noOut_12 (fun _ _ _ h => h) (hs.get (t := 0) rfl) rfl ?_
      refine zo_icmp_lt (i := i_Mo_noOut) (pc := 15) (tgt := 22) d_Mo_noOut_15 (by decide) (fun h15 => ?_) (fun h15 => ?_)
      · refine zo_iconst (i := i_Mo_noOut) (pc := 22) (v := 0) d_Mo_noOut_22 (by decide) ?_
        refine zo_zreturn (i := i_Mo_noOut) (pc := 23) hq d_Mo_noOut_23 rfl rfl (Nat.le_of_ble_eq_true rfl) (Nat.le_of_ble_eq_true rfl) ?_
        first | (simp [h1, h7, h15, zb] at k; exact k) | (simp [h1, h7, zb] at k; exact k) | (simp [h1, zb] at k; exact k)
      · refine zo_iconst (i := i_Mo_noOut) (pc := 18) (v := 1) d_Mo_noOut_18 (by decide) ?_
        refine zo_goto (i := i_Mo_noOut) (pc := 19) (tgt := 23) d_Mo_noOut_19 (by decide) ?_
        refine zo_zreturn (i := i_Mo_noOut) (pc := 23) hq d_Mo_noOut_23 rfl rfl (Nat.le_of_ble_eq_true rfl) (Nat.le_of_ble_eq_true rfl) ?_
        first | (simp [h1, h7, h15, zb] at k; exact k) | (simp [h1, h7, zb] at k; exact k) | (simp [h1, zb] at k; exact k)
theorem c_Mo_place {g : zG} {ws : va_W} {post : Option Value → va_W → Prop} {B : Nat → Nat} {m : Nat → Int32} {F : Nat → Nat → Int32} {R : va_W} (hs : zHas ws (moW g B m F ++ R)) {j : Int32} (k : post (some (.int (m 8 - 1 - j - (m 8 - 1 - j) / 12 * 12))) ws) : zC g i_Mo_place [.ref (B 0), .int j] ws post := by
  refine zC.intro (by decide +kernel) rfl (Nat.le_of_ble_eq_true rfl) fun x0 hq => ?_
  refine zo_aload_n (i := i_Mo_place) (pc := 0) d_Mo_place_0 rfl rfl ?_
  refine zo_get (i := i_Mo_place) (pc := 1) 10 8 rfl zok_Mo (Nat.le_of_ble_eq_true rfl) (ztb_of k_866 rfl) d_Mo_place_1 (fun _ _ _ h => h) (hs.get (t := 0) rfl) rfl ?_
  refine zo_iconst (i := i_Mo_place) (pc := 4) (v := 1) d_Mo_place_4 (by decide) ?_
  refine zo_isub (i := i_Mo_place) (pc := 5) d_Mo_place_5 ?_
  refine zo_iload_n (i := i_Mo_place) (pc := 6) d_Mo_place_6 rfl ?_
  refine zo_isub (i := i_Mo_place) (pc := 7) d_Mo_place_7 ?_
  refine zo_bipush (i := i_Mo_place) (pc := 8) (v := 12) d_Mo_place_8 (by decide) ?_
  refine zo_irem (i := i_Mo_place) (pc := 10) d_Mo_place_10 (by decide) ?_
  refine zo_ireturn (i := i_Mo_place) (pc := 11) hq d_Mo_place_11 rfl (Nat.le_of_ble_eq_true rfl) (Nat.le_of_ble_eq_true rfl) ?_
  exact k
theorem c_Mo_ownAt {g : zG} {ws : va_W} {post : Option Value → va_W → Prop} {B : Nat → Nat} {m : Nat → Int32} {F : Nat → Nat → Int32} {R : va_W} (hs : zHas ws (moW g B m F ++ R)) {n : Nat} {a : Int32} (hm : m 12 = nI n) (hn : n ≤ 6) (k0 : ∀ j : Nat, j < n → F 13 j = a → (∀ t, t < j → F 13 t ≠ a) → post (some (.int (nI j))) ws) (k1 : (∀ t, t < n → F 13 t ≠ a) → post (some (.int (-1))) ws) : zC g i_Mo_ownAt [.ref (B 0), .int a] ws post := by
  refine zC.intro (by decide +kernel) rfl (Nat.le_of_ble_eq_true rfl) fun x0 hq => ?_
  have loop : ∀ (d j : Nat), j + d = n → (∀ t, t < j → F 13 t ≠ a) → zW x0 g i_Mo_ownAt 2 [some (.ref (B 0)), some (.int a), some (.int (nI j))] [] ws 0 0 := by
    intro d
    induction d with
    | zero =>
      intro j hj hno
      refine zo_iload_n (i := i_Mo_ownAt) (pc := 2) d_Mo_ownAt_2 rfl ?_
      refine zo_aload_n (i := i_Mo_ownAt) (pc := 3) d_Mo_ownAt_3 rfl rfl ?_
      refine zo_get (i := i_Mo_ownAt) (pc := 4) 10 12 rfl zok_Mo (Nat.le_of_ble_eq_true rfl) (ztb_of k_870 rfl) d_Mo_ownAt_4 (fun _ _ _ h => h) (hs.get (t := 0) rfl) rfl ?_
      refine zo_icmp_ge (i := i_Mo_ownAt) (pc := 7) (tgt := 28) d_Mo_ownAt_7 (by decide) (fun h7 => ?_) (fun h7 => False.elim (by first | exact absurd h7 ((by rw [hm]; exact nI_le (by omega) (by omega))) | exact absurd ((by rw [hm]; exact nI_le (by omega) (by omega))) h7))
      refine zo_iconst (i := i_Mo_ownAt) (pc := 28) (v := (-1)) d_Mo_ownAt_28 (by decide) ?_
      refine zo_ireturn (i := i_Mo_ownAt) (pc := 29) hq d_Mo_ownAt_29 rfl (Nat.le_of_ble_eq_true rfl) (Nat.le_of_ble_eq_true rfl) ?_
      exact k1 (fun t ht => hno t (by omega))
    | succ d ih =>
      intro j hj hno
      refine zo_iload_n (i := i_Mo_ownAt) (pc := 2) d_Mo_ownAt_2 rfl ?_
      refine zo_aload_n (i := i_Mo_ownAt) (pc := 3) d_Mo_ownAt_3 rfl rfl ?_
      refine zo_get (i := i_Mo_ownAt) (pc := 4) 10 12 rfl zok_Mo (Nat.le_of_ble_eq_true rfl) (ztb_of k_870 rfl) d_Mo_ownAt_4 (fun _ _ _ h => h) (hs.get (t := 0) rfl) rfl ?_
      refine zo_icmp_ge (i := i_Mo_ownAt) (pc := 7) (tgt := 28) d_Mo_ownAt_7 (by decide) (fun h7 => False.elim (by first | exact absurd h7 ((by rw [hm]; exact nI_ge (by omega) (by omega))) | exact absurd ((by rw [hm]; exact nI_ge (by omega) (by omega))) h7)) (fun h7 => ?_)
      refine zo_aload_n (i := i_Mo_ownAt) (pc := 10) d_Mo_ownAt_10 rfl rfl ?_
      refine zo_get (i := i_Mo_ownAt) (pc := 11) 10 13 rfl zok_Mo (Nat.le_of_ble_eq_true rfl) (ztb_of k_871 rfl) d_Mo_ownAt_11 (fun _ _ _ h => h) (hs.get (t := 0) rfl) rfl ?_
      refine zo_iload_n (i := i_Mo_ownAt) (pc := 14) d_Mo_ownAt_14 rfl ?_
      refine zo_iaload (i := i_Mo_ownAt) (pc := 15) d_Mo_ownAt_15 (hs.get (t := 4) rfl) (vp_in_nI (by omega) (by decide)) ?_
      refine zo_iload_n (i := i_Mo_ownAt) (pc := 16) d_Mo_ownAt_16 rfl ?_
      refine zo_icmp_ne (i := i_Mo_ownAt) (pc := 17) (tgt := 22) d_Mo_ownAt_17 (by decide) (fun h17 => ?_) (fun h17 => ?_)
      · refine zo_iinc (i := i_Mo_ownAt) (pc := 22) (v := nI (j + 1)) d_Mo_ownAt_22 rfl (nI_inc j) (Nat.le_of_ble_eq_true rfl) ?_
        refine zo_goto (i := i_Mo_ownAt) (pc := 25) (tgt := 2) d_Mo_ownAt_25 (by decide) ?_
        rw [nI_clamp (show j < 2 ^ 31 by omega)] at h17
        exact ih (j + 1) (by omega) (fun t ht => by
          by_cases e : t = j
          · rw [e]; exact h17
          · exact hno t (by omega))
      · refine zo_iload_n (i := i_Mo_ownAt) (pc := 20) d_Mo_ownAt_20 rfl ?_
        refine zo_ireturn (i := i_Mo_ownAt) (pc := 21) hq d_Mo_ownAt_21 rfl (Nat.le_of_ble_eq_true rfl) (Nat.le_of_ble_eq_true rfl) ?_
        rw [nI_clamp (show j < 2 ^ 31 by omega)] at h17
        exact k0 j (by omega) h17 hno
  refine zo_iconst (i := i_Mo_ownAt) (pc := 0) (v := 0) d_Mo_ownAt_0 (by decide) ?_
  refine zo_istore_n (i := i_Mo_ownAt) (pc := 1) d_Mo_ownAt_1 (Nat.le_of_ble_eq_true rfl) ?_
  exact loop n 0 (by omega) (fun t ht => absurd ht (Nat.not_lt_zero t))
theorem c_Mo_neighbourAt {g : zG} {ws : va_W} {post : Option Value → va_W → Prop} {B : Nat → Nat} {m : Nat → Int32} {F : Nat → Nat → Int32} {R : va_W} (hs : zHas ws (moW g B m F ++ R)) {n : Nat} {a : Int32} (hm : m 18 = nI n) (hn : n ≤ 7) (k0 : ∀ j : Nat, j < n → F 19 j = a → (∀ t, t < j → F 19 t ≠ a) → post (some (.int (nI j))) ws) (k1 : (∀ t, t < n → F 19 t ≠ a) → post (some (.int (-1))) ws) : zC g i_Mo_neighbourAt [.ref (B 0), .int a] ws post := by
  refine zC.intro (by decide +kernel) rfl (Nat.le_of_ble_eq_true rfl) fun x0 hq => ?_
  have loop : ∀ (d j : Nat), j + d = n → (∀ t, t < j → F 19 t ≠ a) → zW x0 g i_Mo_neighbourAt 2 [some (.ref (B 0)), some (.int a), some (.int (nI j))] [] ws 0 0 := by
    intro d
    induction d with
    | zero =>
      intro j hj hno
      refine zo_iload_n (i := i_Mo_neighbourAt) (pc := 2) d_Mo_neighbourAt_2 rfl ?_
      refine zo_aload_n (i := i_Mo_neighbourAt) (pc := 3) d_Mo_neighbourAt_3 rfl rfl ?_
      refine zo_get (i := i_Mo_neighbourAt) (pc := 4) 10 18 rfl zok_Mo (Nat.le_of_ble_eq_true rfl) (ztb_of k_876 rfl) d_Mo_neighbourAt_4 (fun _ _ _ h => h) (hs.get (t := 0) rfl) rfl ?_
      refine zo_icmp_ge (i := i_Mo_neighbourAt) (pc := 7) (tgt := 28) d_Mo_neighbourAt_7 (by decide) (fun h7 => ?_) (fun h7 => False.elim (by first | exact absurd h7 ((by rw [hm]; exact nI_le (by omega) (by omega))) | exact absurd ((by rw [hm]; exact nI_le (by omega) (by omega))) h7))
      refine zo_iconst (i := i_Mo_neighbourAt) (pc := 28) (v := (-1)) d_Mo_neighbourAt_28 (by decide) ?_
      refine zo_ireturn (i := i_Mo_neighbourAt) (pc := 29) hq d_Mo_neighbourAt_29 rfl (Nat.le_of_ble_eq_true rfl) (Nat.le_of_ble_eq_true rfl) ?_
      exact k1 (fun t ht => hno t (by omega))
    | succ d ih =>
      intro j hj hno
      refine zo_iload_n (i := i_Mo_neighbourAt) (pc := 2) d_Mo_neighbourAt_2 rfl ?_
      refine zo_aload_n (i := i_Mo_neighbourAt) (pc := 3) d_Mo_neighbourAt_3 rfl rfl ?_
      refine zo_get (i := i_Mo_neighbourAt) (pc := 4) 10 18 rfl zok_Mo (Nat.le_of_ble_eq_true rfl) (ztb_of k_876 rfl) d_Mo_neighbourAt_4 (fun _ _ _ h => h) (hs.get (t := 0) rfl) rfl ?_
      refine zo_icmp_ge (i := i_Mo_neighbourAt) (pc := 7) (tgt := 28) d_Mo_neighbourAt_7 (by decide) (fun h7 => False.elim (by first | exact absurd h7 ((by rw [hm]; exact nI_ge (by omega) (by omega))) | exact absurd ((by rw [hm]; exact nI_ge (by omega) (by omega))) h7)) (fun h7 => ?_)
      refine zo_aload_n (i := i_Mo_neighbourAt) (pc := 10) d_Mo_neighbourAt_10 rfl rfl ?_
      refine zo_get (i := i_Mo_neighbourAt) (pc := 11) 10 19 rfl zok_Mo (Nat.le_of_ble_eq_true rfl) (ztb_of k_877 rfl) d_Mo_neighbourAt_11 (fun _ _ _ h => h) (hs.get (t := 0) rfl) rfl ?_
      refine zo_iload_n (i := i_Mo_neighbourAt) (pc := 14) d_Mo_neighbourAt_14 rfl ?_
      refine zo_iaload (i := i_Mo_neighbourAt) (pc := 15) d_Mo_neighbourAt_15 (hs.get (t := 9) rfl) (vp_in_nI (by omega) (by decide)) ?_
      refine zo_iload_n (i := i_Mo_neighbourAt) (pc := 16) d_Mo_neighbourAt_16 rfl ?_
      refine zo_icmp_ne (i := i_Mo_neighbourAt) (pc := 17) (tgt := 22) d_Mo_neighbourAt_17 (by decide) (fun h17 => ?_) (fun h17 => ?_)
      · refine zo_iinc (i := i_Mo_neighbourAt) (pc := 22) (v := nI (j + 1)) d_Mo_neighbourAt_22 rfl (nI_inc j) (Nat.le_of_ble_eq_true rfl) ?_
        refine zo_goto (i := i_Mo_neighbourAt) (pc := 25) (tgt := 2) d_Mo_neighbourAt_25 (by decide) ?_
        rw [nI_clamp (show j < 2 ^ 31 by omega)] at h17
        exact ih (j + 1) (by omega) (fun t ht => by
          by_cases e : t = j
          · rw [e]; exact h17
          · exact hno t (by omega))
      · refine zo_iload_n (i := i_Mo_neighbourAt) (pc := 20) d_Mo_neighbourAt_20 rfl ?_
        refine zo_ireturn (i := i_Mo_neighbourAt) (pc := 21) hq d_Mo_neighbourAt_21 rfl (Nat.le_of_ble_eq_true rfl) (Nat.le_of_ble_eq_true rfl) ?_
        rw [nI_clamp (show j < 2 ^ 31 by omega)] at h17
        exact k0 j (by omega) h17 hno
  refine zo_iconst (i := i_Mo_neighbourAt) (pc := 0) (v := 0) d_Mo_neighbourAt_0 (by decide) ?_
  refine zo_istore_n (i := i_Mo_neighbourAt) (pc := 1) d_Mo_neighbourAt_1 (Nat.le_of_ble_eq_true rfl) ?_
  exact loop n 0 (by omega) (fun t ht => absurd ht (Nat.not_lt_zero t))
