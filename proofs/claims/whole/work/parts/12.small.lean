/-! The small classes of the class, and its arithmetic (walks by a program, gen12.py). -/
section ZSmall
/-- a boolean as the machine has it -/
def zb (b : Bool) : Int32 := match b with
  | true => 1
  | false => 0
theorem zb_nar (b : Bool) : narrow .boolean (.int (zb b)) = .int (zb b) := by cases b <;> rfl
theorem zb_0 {b : Bool} : zb b = 0 ↔ b = false := by cases b <;> simp [zb]
theorem zb_1 {b : Bool} : zb b = 1 ↔ b = true := by cases b <;> simp [zb]
theorem zb_inj {a b : Bool} : zb a = zb b ↔ a = b := by cases a <;> cases b <;> simp [zb]
/-- an own address: address, when formed, state, valid until, preferred until -/
abbrev zOD : Type := Int32 × Int32 × Int32 × Int32 × Int32
def odV (x : zOD) : List Value := [.int x.1, .int x.2.1, .int x.2.2.1, .int x.2.2.2.1, .int x.2.2.2.2]
/-- a neighbour: address, number, state, since, whether a router, what waits -/
abbrev zND : Type := Int32 × Int32 × Int32 × Int32 × Bool × Int32
def ndV (x : zND) : List Value := [.int x.1, .int x.2.1, .int x.2.2.1, .int x.2.2.2.1, .int (zb x.2.2.2.2.1), .int x.2.2.2.2.2]
/-- an entry with an end: key, end, size -/
abbrev zTD : Type := Int32 × Int32 × Int32
def tdV (x : zTD) : List Value := [.int x.1, .int x.2.1, .int x.2.2]
def zusable (s : Int32) : Bool := decide (s = 2) || decide (s = 3)
def zasked (s : Int32) : Bool := decide (s = 1) || decide (s = 5)
def zwithin (v a b : Int32) : Bool := !decide (v < a) && !decide (b < v)
def zaddr (a : Int32) : Bool := zwithin (a / 256) 1 250 && zwithin (a - a / 256 * 256) 1 254
def zlocal (a : Int32) : Bool := decide (a / 256 = 1)
end ZSmall
theorem c_Ho_isWithin {g : zG} {ws : va_W} {post : Option Value → va_W → Prop} {v a b : Int32} (k : post (some (.int (zb (zwithin v a b)))) ws) : zC g i_Ho_isWithin [.int v, .int a, .int b] ws post := by
  refine zC.intro (by decide +kernel) rfl (Nat.le_of_ble_eq_true rfl) fun x hq => ?_
  refine zo_iload_n (i := i_Ho_isWithin) (pc := 0) d_Ho_isWithin_0 rfl ?_
  refine zo_iload_n (i := i_Ho_isWithin) (pc := 1) d_Ho_isWithin_1 rfl ?_
  refine zo_icmp_lt (i := i_Ho_isWithin) (pc := 2) (tgt := 14) d_Ho_isWithin_2 (by decide) (fun h2 => ?_) (fun h2 => ?_)
  · refine zo_iconst (i := i_Ho_isWithin) (pc := 14) (v := 0) d_Ho_isWithin_14 (by decide) ?_
    refine zo_zreturn (i := i_Ho_isWithin) (pc := 15) hq d_Ho_isWithin_15 rfl rfl (Nat.le_of_ble_eq_true rfl) (Nat.le_of_ble_eq_true rfl) ?_
    first | (simp [zwithin, h2, h7, zb] at k; exact k) | (simp [zwithin, h2, zb] at k; exact k)
  · refine zo_iload_n (i := i_Ho_isWithin) (pc := 5) d_Ho_isWithin_5 rfl ?_
    refine zo_iload_n (i := i_Ho_isWithin) (pc := 6) d_Ho_isWithin_6 rfl ?_
    refine zo_icmp_gt (i := i_Ho_isWithin) (pc := 7) (tgt := 14) d_Ho_isWithin_7 (by decide) (fun h7 => ?_) (fun h7 => ?_)
    · refine zo_iconst (i := i_Ho_isWithin) (pc := 14) (v := 0) d_Ho_isWithin_14 (by decide) ?_
      refine zo_zreturn (i := i_Ho_isWithin) (pc := 15) hq d_Ho_isWithin_15 rfl rfl (Nat.le_of_ble_eq_true rfl) (Nat.le_of_ble_eq_true rfl) ?_
      first | (simp [zwithin, h2, h7, zb] at k; exact k) | (simp [zwithin, h2, zb] at k; exact k)
    · refine zo_iconst (i := i_Ho_isWithin) (pc := 10) (v := 1) d_Ho_isWithin_10 (by decide) ?_
      refine zo_goto (i := i_Ho_isWithin) (pc := 11) (tgt := 15) d_Ho_isWithin_11 (by decide) ?_
      refine zo_zreturn (i := i_Ho_isWithin) (pc := 15) hq d_Ho_isWithin_15 rfl rfl (Nat.le_of_ble_eq_true rfl) (Nat.le_of_ble_eq_true rfl) ?_
      first | (simp [zwithin, h2, h7, zb] at k; exact k) | (simp [zwithin, h2, zb] at k; exact k)
theorem c_Ho_isNumber {g : zG} {ws : va_W} {post : Option Value → va_W → Prop} {v : Int32} (k : post (some (.int (zb (zwithin v 1 99)))) ws) : zC g i_Ho_isNumber [.int v] ws post := by
  refine zC.intro (by decide +kernel) rfl (Nat.le_of_ble_eq_true rfl) fun x hq => ?_
  refine zo_iload_n (i := i_Ho_isNumber) (pc := 0) d_Ho_isNumber_0 rfl ?_
  refine zo_iconst (i := i_Ho_isNumber) (pc := 1) (v := 1) d_Ho_isNumber_1 (by decide) ?_
  refine zo_bipush (i := i_Ho_isNumber) (pc := 2) (v := 99) d_Ho_isNumber_2 (by decide) ?_
  refine zc_S3 (i := i_Ho_isNumber) (pc := 4) m_Ho_isWithin (ztb_of k_359 rfl) (ztb_of k_360 rfl) d_Ho_isNumber_4 (Nat.le_of_ble_eq_true rfl) (Nat.le_of_ble_eq_true rfl) (Nat.le_of_ble_eq_true rfl) (Nat.le_of_ble_eq_true rfl) (c_Ho_isWithin ?_)
  refine zo_zreturn (i := i_Ho_isNumber) (pc := 7) hq d_Ho_isNumber_7 rfl (zb_nar _) (Nat.le_of_ble_eq_true rfl) (Nat.le_of_ble_eq_true rfl) ?_
  exact k
theorem c_Ho_isLife {g : zG} {ws : va_W} {post : Option Value → va_W → Prop} {v : Int32} (k : post (some (.int (zb (zwithin v 0 1000)))) ws) : zC g i_Ho_isLife [.int v] ws post := by
  refine zC.intro (by decide +kernel) rfl (Nat.le_of_ble_eq_true rfl) fun x hq => ?_
  refine zo_iload_n (i := i_Ho_isLife) (pc := 0) d_Ho_isLife_0 rfl ?_
  refine zo_iconst (i := i_Ho_isLife) (pc := 1) (v := 0) d_Ho_isLife_1 (by decide) ?_
  refine zo_sipush (i := i_Ho_isLife) (pc := 2) (v := 1000) d_Ho_isLife_2 (by decide) ?_
  refine zc_S3 (i := i_Ho_isLife) (pc := 5) m_Ho_isWithin (ztb_of k_359 rfl) (ztb_of k_360 rfl) d_Ho_isLife_5 (Nat.le_of_ble_eq_true rfl) (Nat.le_of_ble_eq_true rfl) (Nat.le_of_ble_eq_true rfl) (Nat.le_of_ble_eq_true rfl) (c_Ho_isWithin ?_)
  refine zo_zreturn (i := i_Ho_isLife) (pc := 8) hq d_Ho_isLife_8 rfl (zb_nar _) (Nat.le_of_ble_eq_true rfl) (Nat.le_of_ble_eq_true rfl) ?_
  exact k
theorem c_Ho_prefixOf {g : zG} {ws : va_W} {post : Option Value → va_W → Prop} {a : Int32} (k : post (some (.int (a / 256))) ws) : zC g i_Ho_prefixOf [.int a] ws post := by
  refine zC.intro (by decide +kernel) rfl (Nat.le_of_ble_eq_true rfl) fun x hq => ?_
  refine zo_iload_n (i := i_Ho_prefixOf) (pc := 0) d_Ho_prefixOf_0 rfl ?_
  refine zo_sipush (i := i_Ho_prefixOf) (pc := 1) (v := 256) d_Ho_prefixOf_1 (by decide) ?_
  refine zo_idiv (i := i_Ho_prefixOf) (pc := 4) d_Ho_prefixOf_4 (by decide) ?_
  refine zo_ireturn (i := i_Ho_prefixOf) (pc := 5) hq d_Ho_prefixOf_5 rfl (Nat.le_of_ble_eq_true rfl) (Nat.le_of_ble_eq_true rfl) ?_
  exact k
theorem c_Ho_addressOf {g : zG} {ws : va_W} {post : Option Value → va_W → Prop} {a b : Int32} (k : post (some (.int (256 * a + b))) ws) : zC g i_Ho_addressOf [.int a, .int b] ws post := by
  refine zC.intro (by decide +kernel) rfl (Nat.le_of_ble_eq_true rfl) fun x hq => ?_
  refine zo_sipush (i := i_Ho_addressOf) (pc := 0) (v := 256) d_Ho_addressOf_0 (by decide) ?_
  refine zo_iload_n (i := i_Ho_addressOf) (pc := 3) d_Ho_addressOf_3 rfl ?_
  refine zo_imul (i := i_Ho_addressOf) (pc := 4) d_Ho_addressOf_4 ?_
  refine zo_iload_n (i := i_Ho_addressOf) (pc := 5) d_Ho_addressOf_5 rfl ?_
  refine zo_iadd (i := i_Ho_addressOf) (pc := 6) d_Ho_addressOf_6 ?_
  refine zo_ireturn (i := i_Ho_addressOf) (pc := 7) hq d_Ho_addressOf_7 rfl (Nat.le_of_ble_eq_true rfl) (Nat.le_of_ble_eq_true rfl) ?_
  exact k
theorem c_Ho_isAddress {g : zG} {ws : va_W} {post : Option Value → va_W → Prop} {a : Int32} (k : post (some (.int (zb (zaddr a)))) ws) : zC g i_Ho_isAddress [.int a] ws post := by
  refine zC.intro (by decide +kernel) rfl (Nat.le_of_ble_eq_true rfl) fun x hq => ?_
  refine zo_iload_n (i := i_Ho_isAddress) (pc := 0) d_Ho_isAddress_0 rfl ?_
  refine zc_S1 (i := i_Ho_isAddress) (pc := 1) m_Ho_prefixOf (ztb_of k_655 rfl) (ztb_of k_656 rfl) d_Ho_isAddress_1 (Nat.le_of_ble_eq_true rfl) (Nat.le_of_ble_eq_true rfl) (Nat.le_of_ble_eq_true rfl) (Nat.le_of_ble_eq_true rfl) (c_Ho_prefixOf ?_)
  refine zo_iconst (i := i_Ho_isAddress) (pc := 4) (v := 1) d_Ho_isAddress_4 (by decide) ?_
  refine zo_sipush (i := i_Ho_isAddress) (pc := 5) (v := 250) d_Ho_isAddress_5 (by decide) ?_
  refine zc_S3 (i := i_Ho_isAddress) (pc := 8) m_Ho_isWithin (ztb_of k_359 rfl) (ztb_of k_360 rfl) d_Ho_isAddress_8 (Nat.le_of_ble_eq_true rfl) (Nat.le_of_ble_eq_true rfl) (Nat.le_of_ble_eq_true rfl) (Nat.le_of_ble_eq_true rfl) (c_Ho_isWithin ?_)
  refine zo_if_eq (i := i_Ho_isAddress) (pc := 11) (tgt := 33) d_Ho_isAddress_11 (by decide) (fun h11 => ?_) (fun h11 => ?_)
  · refine zo_iconst (i := i_Ho_isAddress) (pc := 33) (v := 0) d_Ho_isAddress_33 (by decide) ?_
    refine zo_zreturn (i := i_Ho_isAddress) (pc := 34) hq d_Ho_isAddress_34 rfl rfl (Nat.le_of_ble_eq_true rfl) (Nat.le_of_ble_eq_true rfl) ?_
    first | (simp [zaddr, zb_0.mp h11, zb] at k; exact k) | (simp [zaddr, zb_0.mp h26, zb] at k; exact k) | (rw [zb_0, Bool.not_eq_false] at h11 h26; rw [zaddr, h11, h26] at k; exact k)
  · refine zo_iload_n (i := i_Ho_isAddress) (pc := 14) d_Ho_isAddress_14 rfl ?_
    refine zo_sipush (i := i_Ho_isAddress) (pc := 15) (v := 256) d_Ho_isAddress_15 (by decide) ?_
    refine zo_irem (i := i_Ho_isAddress) (pc := 18) d_Ho_isAddress_18 (by decide) ?_
    refine zo_iconst (i := i_Ho_isAddress) (pc := 19) (v := 1) d_Ho_isAddress_19 (by decide) ?_
    refine zo_sipush (i := i_Ho_isAddress) (pc := 20) (v := 254) d_Ho_isAddress_20 (by decide) ?_
    refine zc_S3 (i := i_Ho_isAddress) (pc := 23) m_Ho_isWithin (ztb_of k_359 rfl) (ztb_of k_360 rfl) d_Ho_isAddress_23 (Nat.le_of_ble_eq_true rfl) (Nat.le_of_ble_eq_true rfl) (Nat.le_of_ble_eq_true rfl) (Nat.le_of_ble_eq_true rfl) (c_Ho_isWithin ?_)
    refine zo_if_eq (i := i_Ho_isAddress) (pc := 26) (tgt := 33) d_Ho_isAddress_26 (by decide) (fun h26 => ?_) (fun h26 => ?_)
    · refine zo_iconst (i := i_Ho_isAddress) (pc := 33) (v := 0) d_Ho_isAddress_33 (by decide) ?_
      refine zo_zreturn (i := i_Ho_isAddress) (pc := 34) hq d_Ho_isAddress_34 rfl rfl (Nat.le_of_ble_eq_true rfl) (Nat.le_of_ble_eq_true rfl) ?_
      first | (simp [zaddr, zb_0.mp h11, zb] at k; exact k) | (simp [zaddr, zb_0.mp h26, zb] at k; exact k) | (rw [zb_0, Bool.not_eq_false] at h11 h26; rw [zaddr, h11, h26] at k; exact k)
    · refine zo_iconst (i := i_Ho_isAddress) (pc := 29) (v := 1) d_Ho_isAddress_29 (by decide) ?_
      refine zo_goto (i := i_Ho_isAddress) (pc := 30) (tgt := 34) d_Ho_isAddress_30 (by decide) ?_
      refine zo_zreturn (i := i_Ho_isAddress) (pc := 34) hq d_Ho_isAddress_34 rfl rfl (Nat.le_of_ble_eq_true rfl) (Nat.le_of_ble_eq_true rfl) ?_
      first | (simp [zaddr, zb_0.mp h11, zb] at k; exact k) | (simp [zaddr, zb_0.mp h26, zb] at k; exact k) | (rw [zb_0, Bool.not_eq_false] at h11 h26; rw [zaddr, h11, h26] at k; exact k)
theorem c_Ho_isLocal {g : zG} {ws : va_W} {post : Option Value → va_W → Prop} {a : Int32} (k : post (some (.int (zb (zlocal a)))) ws) : zC g i_Ho_isLocal [.int a] ws post := by
  refine zC.intro (by decide +kernel) rfl (Nat.le_of_ble_eq_true rfl) fun x hq => ?_
  refine zo_iload_n (i := i_Ho_isLocal) (pc := 0) d_Ho_isLocal_0 rfl ?_
  refine zc_S1 (i := i_Ho_isLocal) (pc := 1) m_Ho_prefixOf (ztb_of k_655 rfl) (ztb_of k_656 rfl) d_Ho_isLocal_1 (Nat.le_of_ble_eq_true rfl) (Nat.le_of_ble_eq_true rfl) (Nat.le_of_ble_eq_true rfl) (Nat.le_of_ble_eq_true rfl) (c_Ho_prefixOf ?_)
  refine zo_iconst (i := i_Ho_isLocal) (pc := 4) (v := 1) d_Ho_isLocal_4 (by decide) ?_
  refine zo_icmp_ne (i := i_Ho_isLocal) (pc := 5) (tgt := 12) d_Ho_isLocal_5 (by decide) (fun h5 => ?_) (fun h5 => ?_)
  · refine zo_iconst (i := i_Ho_isLocal) (pc := 12) (v := 0) d_Ho_isLocal_12 (by decide) ?_
    refine zo_zreturn (i := i_Ho_isLocal) (pc := 13) hq d_Ho_isLocal_13 rfl rfl (Nat.le_of_ble_eq_true rfl) (Nat.le_of_ble_eq_true rfl) ?_
    first | (rw [zlocal, decide_eq_true h5] at k; exact k) | (rw [zlocal, decide_eq_false h5] at k; exact k)
  · refine zo_iconst (i := i_Ho_isLocal) (pc := 8) (v := 1) d_Ho_isLocal_8 (by decide) ?_
    refine zo_goto (i := i_Ho_isLocal) (pc := 9) (tgt := 13) d_Ho_isLocal_9 (by decide) ?_
    refine zo_zreturn (i := i_Ho_isLocal) (pc := 13) hq d_Ho_isLocal_13 rfl rfl (Nat.le_of_ble_eq_true rfl) (Nat.le_of_ble_eq_true rfl) ?_
    first | (rw [zlocal, decide_eq_true h5] at k; exact k) | (rw [zlocal, decide_eq_false h5] at k; exact k)
theorem c_Oa_init {g : zG} {ws : va_W} {post : Option Value → va_W → Prop} {a : Nat} {R : va_W} {v1 v2 v3 v4 v5 : Value} {x1 x2 : Int32} (hs : zHas ws ((a, .inr (5, [v1, v2, v3, v4, v5])) :: R)) (k : ∀ w, zHas w ((a, .inr (5, odV (x1, x2, 1, 2147483647, 2147483647))) :: R) → post none w) : zC g i_Oa_init [.ref a, .int x1, .int x2] ws post := by
  refine zC.intro (by decide +kernel) rfl (Nat.le_of_ble_eq_true rfl) fun x hq => ?_
  refine zo_aload_n (i := i_Oa_init) (pc := 0) d_Oa_init_0 rfl rfl ?_
  refine zo_objInit (i := i_Oa_init) (pc := 1) (ztb_of k_166 rfl) (ztb_of k_32 rfl) (ztb_of k_33 rfl) d_Oa_init_1 (Nat.le_of_ble_eq_true rfl) (Nat.le_of_ble_eq_true rfl) ?_
  refine zo_aload_n (i := i_Oa_init) (pc := 4) d_Oa_init_4 rfl rfl ?_
  refine zo_iconst (i := i_Oa_init) (pc := 5) (v := 1) d_Oa_init_5 (by decide) ?_
  refine zh_put (i := i_Oa_init) (pc := 6) 5 2 rfl zok_Oa (Nat.le_of_ble_eq_true rfl) (ztb_of k_173 rfl) rfl d_Oa_init_6 (fun _ _ _ h => h) (t_Oa_ok 2 (Nat.le_of_ble_eq_true rfl)) rfl rfl hs 0 rfl (Nat.le_of_ble_eq_true rfl) fun ws hs => ?_
  refine zo_aload_n (i := i_Oa_init) (pc := 9) d_Oa_init_9 rfl rfl ?_
  refine zo_ldc (i := i_Oa_init) (pc := 10) d_Oa_init_10 (ztb_of k_167 rfl) ?_
  refine zh_put (i := i_Oa_init) (pc := 12) 5 3 rfl zok_Oa (Nat.le_of_ble_eq_true rfl) (ztb_of k_175 rfl) rfl d_Oa_init_12 (fun _ _ _ h => h) (t_Oa_ok 3 (Nat.le_of_ble_eq_true rfl)) rfl rfl hs 0 rfl (Nat.le_of_ble_eq_true rfl) fun ws hs => ?_
  refine zo_aload_n (i := i_Oa_init) (pc := 15) d_Oa_init_15 rfl rfl ?_
  refine zo_ldc (i := i_Oa_init) (pc := 16) d_Oa_init_16 (ztb_of k_167 rfl) ?_
  refine zh_put (i := i_Oa_init) (pc := 18) 5 4 rfl zok_Oa (Nat.le_of_ble_eq_true rfl) (ztb_of k_178 rfl) rfl d_Oa_init_18 (fun _ _ _ h => h) (t_Oa_ok 4 (Nat.le_of_ble_eq_true rfl)) rfl rfl hs 0 rfl (Nat.le_of_ble_eq_true rfl) fun ws hs => ?_
  refine zo_aload_n (i := i_Oa_init) (pc := 21) d_Oa_init_21 rfl rfl ?_
  refine zo_iload_n (i := i_Oa_init) (pc := 22) d_Oa_init_22 rfl ?_
  refine zh_putF (i := i_Oa_init) (pc := 23) 5 0 rfl zok_Oa (Nat.le_of_ble_eq_true rfl) (ztb_of k_168 rfl) rfl rfl rfl d_Oa_init_23 (fun _ _ _ h => h) (t_Oa_ok 0 (Nat.le_of_ble_eq_true rfl)) rfl rfl hs 0 rfl (Nat.le_of_ble_eq_true rfl) fun ws hs => ?_
  refine zo_aload_n (i := i_Oa_init) (pc := 26) d_Oa_init_26 rfl rfl ?_
  refine zo_iload_n (i := i_Oa_init) (pc := 27) d_Oa_init_27 rfl ?_
  refine zh_putF (i := i_Oa_init) (pc := 28) 5 1 rfl zok_Oa (Nat.le_of_ble_eq_true rfl) (ztb_of k_171 rfl) rfl rfl rfl d_Oa_init_28 (fun _ _ _ h => h) (t_Oa_ok 1 (Nat.le_of_ble_eq_true rfl)) rfl rfl hs 0 rfl (Nat.le_of_ble_eq_true rfl) fun ws hs => ?_
  refine zo_return (i := i_Oa_init) (pc := 31) hq d_Oa_init_31 rfl (Nat.le_of_ble_eq_true rfl) (Nat.le_of_ble_eq_true rfl) ?_
  exact k ws hs
theorem c_Oa_isUsable {g : zG} {ws : va_W} {post : Option Value → va_W → Prop} {a : Nat} {x : zOD} (he : zget ws a = some (.inr (5, odV x))) (k : post (some (.int (zb (zusable x.2.2.1)))) ws) : zC g i_Oa_isUsable [.ref a] ws post := by
  refine zC.intro (by decide +kernel) rfl (Nat.le_of_ble_eq_true rfl) fun x hq => ?_
  refine zo_aload_n (i := i_Oa_isUsable) (pc := 0) d_Oa_isUsable_0 rfl rfl ?_
  refine zo_get (i := i_Oa_isUsable) (pc := 1) 5 2 rfl zok_Oa (Nat.le_of_ble_eq_true rfl) (ztb_of k_173 rfl) d_Oa_isUsable_1 (fun _ _ _ h => h) he rfl ?_
  refine zo_iconst (i := i_Oa_isUsable) (pc := 4) (v := 2) d_Oa_isUsable_4 (by decide) ?_
  refine zo_icmp_eq (i := i_Oa_isUsable) (pc := 5) (tgt := 16) d_Oa_isUsable_5 (by decide) (fun h5 => ?_) (fun h5 => ?_)
  · refine zo_iconst (i := i_Oa_isUsable) (pc := 16) (v := 1) d_Oa_isUsable_16 (by decide) ?_
    refine zo_goto (i := i_Oa_isUsable) (pc := 17) (tgt := 21) d_Oa_isUsable_17 (by decide) ?_
    refine zo_zreturn (i := i_Oa_isUsable) (pc := 21) hq d_Oa_isUsable_21 rfl rfl (Nat.le_of_ble_eq_true rfl) (Nat.le_of_ble_eq_true rfl) ?_
    first | (simp [zusable, h5, zb] at k; exact k) | (simp [zusable, h5, h13, zb] at k; exact k)
  · refine zo_aload_n (i := i_Oa_isUsable) (pc := 8) d_Oa_isUsable_8 rfl rfl ?_
    refine zo_get (i := i_Oa_isUsable) (pc := 9) 5 2 rfl zok_Oa (Nat.le_of_ble_eq_true rfl) (ztb_of k_173 rfl) d_Oa_isUsable_9 (fun _ _ _ h => h) he rfl ?_
    refine zo_iconst (i := i_Oa_isUsable) (pc := 12) (v := 3) d_Oa_isUsable_12 (by decide) ?_
    refine zo_icmp_ne (i := i_Oa_isUsable) (pc := 13) (tgt := 20) d_Oa_isUsable_13 (by decide) (fun h13 => ?_) (fun h13 => ?_)
    · refine zo_iconst (i := i_Oa_isUsable) (pc := 20) (v := 0) d_Oa_isUsable_20 (by decide) ?_
      refine zo_zreturn (i := i_Oa_isUsable) (pc := 21) hq d_Oa_isUsable_21 rfl rfl (Nat.le_of_ble_eq_true rfl) (Nat.le_of_ble_eq_true rfl) ?_
      first | (simp [zusable, h5, zb] at k; exact k) | (simp [zusable, h5, h13, zb] at k; exact k)
    · refine zo_iconst (i := i_Oa_isUsable) (pc := 16) (v := 1) d_Oa_isUsable_16 (by decide) ?_
      refine zo_goto (i := i_Oa_isUsable) (pc := 17) (tgt := 21) d_Oa_isUsable_17 (by decide) ?_
      refine zo_zreturn (i := i_Oa_isUsable) (pc := 21) hq d_Oa_isUsable_21 rfl rfl (Nat.le_of_ble_eq_true rfl) (Nat.le_of_ble_eq_true rfl) ?_
      first | (simp [zusable, h5, zb] at k; exact k) | (simp [zusable, h5, h13, zb] at k; exact k)
theorem c_Ne_init {g : zG} {ws : va_W} {post : Option Value → va_W → Prop} {a : Nat} {R : va_W} {v1 v2 v3 v4 v5 v6 : Value} {x1 x2 x3 x4 : Int32} (hs : zHas ws ((a, .inr (2, [v1, v2, v3, v4, v5, v6])) :: R)) (k : ∀ w, zHas w ((a, .inr (2, ndV (x1, x2, x3, x4, false, 0))) :: R) → post none w) : zC g i_Ne_init [.ref a, .int x1, .int x2, .int x3, .int x4] ws post := by
  refine zC.intro (by decide +kernel) rfl (Nat.le_of_ble_eq_true rfl) fun x hq => ?_
  refine zo_aload_n (i := i_Ne_init) (pc := 0) d_Ne_init_0 rfl rfl ?_
  refine zo_objInit (i := i_Ne_init) (pc := 1) (ztb_of k_543 rfl) (ztb_of k_32 rfl) (ztb_of k_33 rfl) d_Ne_init_1 (Nat.le_of_ble_eq_true rfl) (Nat.le_of_ble_eq_true rfl) ?_
  refine zo_aload_n (i := i_Ne_init) (pc := 4) d_Ne_init_4 rfl rfl ?_
  refine zo_iconst (i := i_Ne_init) (pc := 5) (v := 0) d_Ne_init_5 (by decide) ?_
  refine zh_put (i := i_Ne_init) (pc := 6) 2 4 rfl zok_Ne (Nat.le_of_ble_eq_true rfl) (ztb_of k_554 rfl) rfl d_Ne_init_6 (fun _ _ _ h => h) (t_Ne_ok 4 (Nat.le_of_ble_eq_true rfl)) rfl rfl hs 0 rfl (Nat.le_of_ble_eq_true rfl) fun ws hs => ?_
  refine zo_aload_n (i := i_Ne_init) (pc := 9) d_Ne_init_9 rfl rfl ?_
  refine zo_iconst (i := i_Ne_init) (pc := 10) (v := 0) d_Ne_init_10 (by decide) ?_
  refine zh_put (i := i_Ne_init) (pc := 11) 2 5 rfl zok_Ne (Nat.le_of_ble_eq_true rfl) (ztb_of k_556 rfl) rfl d_Ne_init_11 (fun _ _ _ h => h) (t_Ne_ok 5 (Nat.le_of_ble_eq_true rfl)) rfl rfl hs 0 rfl (Nat.le_of_ble_eq_true rfl) fun ws hs => ?_
  refine zo_aload_n (i := i_Ne_init) (pc := 14) d_Ne_init_14 rfl rfl ?_
  refine zo_iload_n (i := i_Ne_init) (pc := 15) d_Ne_init_15 rfl ?_
  refine zh_putF (i := i_Ne_init) (pc := 16) 2 0 rfl zok_Ne (Nat.le_of_ble_eq_true rfl) (ztb_of k_544 rfl) rfl rfl rfl d_Ne_init_16 (fun _ _ _ h => h) (t_Ne_ok 0 (Nat.le_of_ble_eq_true rfl)) rfl rfl hs 0 rfl (Nat.le_of_ble_eq_true rfl) fun ws hs => ?_
  refine zo_aload_n (i := i_Ne_init) (pc := 19) d_Ne_init_19 rfl rfl ?_
  refine zo_iload_n (i := i_Ne_init) (pc := 20) d_Ne_init_20 rfl ?_
  refine zh_put (i := i_Ne_init) (pc := 21) 2 1 rfl zok_Ne (Nat.le_of_ble_eq_true rfl) (ztb_of k_547 rfl) rfl d_Ne_init_21 (fun _ _ _ h => h) (t_Ne_ok 1 (Nat.le_of_ble_eq_true rfl)) rfl rfl hs 0 rfl (Nat.le_of_ble_eq_true rfl) fun ws hs => ?_
  refine zo_aload_n (i := i_Ne_init) (pc := 24) d_Ne_init_24 rfl rfl ?_
  refine zo_iload_n (i := i_Ne_init) (pc := 25) d_Ne_init_25 rfl ?_
  refine zh_put (i := i_Ne_init) (pc := 26) 2 2 rfl zok_Ne (Nat.le_of_ble_eq_true rfl) (ztb_of k_549 rfl) rfl d_Ne_init_26 (fun _ _ _ h => h) (t_Ne_ok 2 (Nat.le_of_ble_eq_true rfl)) rfl rfl hs 0 rfl (Nat.le_of_ble_eq_true rfl) fun ws hs => ?_
  refine zo_aload_n (i := i_Ne_init) (pc := 29) d_Ne_init_29 rfl rfl ?_
  refine zo_iload (i := i_Ne_init) (pc := 30) d_Ne_init_30 rfl ?_
  refine zh_put (i := i_Ne_init) (pc := 32) 2 3 rfl zok_Ne (Nat.le_of_ble_eq_true rfl) (ztb_of k_551 rfl) rfl d_Ne_init_32 (fun _ _ _ h => h) (t_Ne_ok 3 (Nat.le_of_ble_eq_true rfl)) rfl rfl hs 0 rfl (Nat.le_of_ble_eq_true rfl) fun ws hs => ?_
  refine zo_return (i := i_Ne_init) (pc := 35) hq d_Ne_init_35 rfl (Nat.le_of_ble_eq_true rfl) (Nat.le_of_ble_eq_true rfl) ?_
  exact k ws hs
theorem c_Ne_enter {g : zG} {ws : va_W} {post : Option Value → va_W → Prop} {a : Nat} {R : va_W} {x : zND} {x1 x2 : Int32} (hs : zHas ws ((a, .inr (2, ndV x)) :: R)) (k : ∀ w, zHas w ((a, .inr (2, ndV (x.1, x.2.1, x1, x2, x.2.2.2.2))) :: R) → post none w) : zC g i_Ne_enter [.ref a, .int x1, .int x2] ws post := by
  refine zC.intro (by decide +kernel) rfl (Nat.le_of_ble_eq_true rfl) fun x hq => ?_
  refine zo_aload_n (i := i_Ne_enter) (pc := 0) d_Ne_enter_0 rfl rfl ?_
  refine zo_iload_n (i := i_Ne_enter) (pc := 1) d_Ne_enter_1 rfl ?_
  refine zh_put (i := i_Ne_enter) (pc := 2) 2 2 rfl zok_Ne (Nat.le_of_ble_eq_true rfl) (ztb_of k_549 rfl) rfl d_Ne_enter_2 (fun _ _ _ h => h) (t_Ne_ok 2 (Nat.le_of_ble_eq_true rfl)) rfl rfl hs 0 rfl (Nat.le_of_ble_eq_true rfl) fun ws hs => ?_
  refine zo_aload_n (i := i_Ne_enter) (pc := 5) d_Ne_enter_5 rfl rfl ?_
  refine zo_iload_n (i := i_Ne_enter) (pc := 6) d_Ne_enter_6 rfl ?_
  refine zh_put (i := i_Ne_enter) (pc := 7) 2 3 rfl zok_Ne (Nat.le_of_ble_eq_true rfl) (ztb_of k_551 rfl) rfl d_Ne_enter_7 (fun _ _ _ h => h) (t_Ne_ok 3 (Nat.le_of_ble_eq_true rfl)) rfl rfl hs 0 rfl (Nat.le_of_ble_eq_true rfl) fun ws hs => ?_
  refine zo_return (i := i_Ne_enter) (pc := 10) hq d_Ne_enter_10 rfl (Nat.le_of_ble_eq_true rfl) (Nat.le_of_ble_eq_true rfl) ?_
  exact k ws hs
theorem c_Ne_isAskedFor {g : zG} {ws : va_W} {post : Option Value → va_W → Prop} {a : Nat} {x : zND} (he : zget ws a = some (.inr (2, ndV x))) (k : post (some (.int (zb (zasked x.2.2.1)))) ws) : zC g i_Ne_isAskedFor [.ref a] ws post := by
  refine zC.intro (by decide +kernel) rfl (Nat.le_of_ble_eq_true rfl) fun x hq => ?_
  refine zo_aload_n (i := i_Ne_isAskedFor) (pc := 0) d_Ne_isAskedFor_0 rfl rfl ?_
  refine zo_get (i := i_Ne_isAskedFor) (pc := 1) 2 2 rfl zok_Ne (Nat.le_of_ble_eq_true rfl) (ztb_of k_549 rfl) d_Ne_isAskedFor_1 (fun _ _ _ h => h) he rfl ?_
  refine zo_iconst (i := i_Ne_isAskedFor) (pc := 4) (v := 1) d_Ne_isAskedFor_4 (by decide) ?_
  refine zo_icmp_eq (i := i_Ne_isAskedFor) (pc := 5) (tgt := 16) d_Ne_isAskedFor_5 (by decide) (fun h5 => ?_) (fun h5 => ?_)
  · refine zo_iconst (i := i_Ne_isAskedFor) (pc := 16) (v := 1) d_Ne_isAskedFor_16 (by decide) ?_
    refine zo_goto (i := i_Ne_isAskedFor) (pc := 17) (tgt := 21) d_Ne_isAskedFor_17 (by decide) ?_
    refine zo_zreturn (i := i_Ne_isAskedFor) (pc := 21) hq d_Ne_isAskedFor_21 rfl rfl (Nat.le_of_ble_eq_true rfl) (Nat.le_of_ble_eq_true rfl) ?_
    first | (simp [zasked, h5, zb] at k; exact k) | (simp [zasked, h5, h13, zb] at k; exact k)
  · refine zo_aload_n (i := i_Ne_isAskedFor) (pc := 8) d_Ne_isAskedFor_8 rfl rfl ?_
    refine zo_get (i := i_Ne_isAskedFor) (pc := 9) 2 2 rfl zok_Ne (Nat.le_of_ble_eq_true rfl) (ztb_of k_549 rfl) d_Ne_isAskedFor_9 (fun _ _ _ h => h) he rfl ?_
    refine zo_iconst (i := i_Ne_isAskedFor) (pc := 12) (v := 5) d_Ne_isAskedFor_12 (by decide) ?_
    refine zo_icmp_ne (i := i_Ne_isAskedFor) (pc := 13) (tgt := 20) d_Ne_isAskedFor_13 (by decide) (fun h13 => ?_) (fun h13 => ?_)
    · refine zo_iconst (i := i_Ne_isAskedFor) (pc := 20) (v := 0) d_Ne_isAskedFor_20 (by decide) ?_
      refine zo_zreturn (i := i_Ne_isAskedFor) (pc := 21) hq d_Ne_isAskedFor_21 rfl rfl (Nat.le_of_ble_eq_true rfl) (Nat.le_of_ble_eq_true rfl) ?_
      first | (simp [zasked, h5, zb] at k; exact k) | (simp [zasked, h5, h13, zb] at k; exact k)
    · refine zo_iconst (i := i_Ne_isAskedFor) (pc := 16) (v := 1) d_Ne_isAskedFor_16 (by decide) ?_
      refine zo_goto (i := i_Ne_isAskedFor) (pc := 17) (tgt := 21) d_Ne_isAskedFor_17 (by decide) ?_
      refine zo_zreturn (i := i_Ne_isAskedFor) (pc := 21) hq d_Ne_isAskedFor_21 rfl rfl (Nat.le_of_ble_eq_true rfl) (Nat.le_of_ble_eq_true rfl) ?_
      first | (simp [zasked, h5, zb] at k; exact k) | (simp [zasked, h5, h13, zb] at k; exact k)
theorem c_Ne_hasWaiting {g : zG} {ws : va_W} {post : Option Value → va_W → Prop} {a : Nat} {x : zND} (he : zget ws a = some (.inr (2, ndV x))) (k : post (some (.int (zb (!decide (x.2.2.2.2.2 = 0))))) ws) : zC g i_Ne_hasWaiting [.ref a] ws post := by
  refine zC.intro (by decide +kernel) rfl (Nat.le_of_ble_eq_true rfl) fun x hq => ?_
  refine zo_aload_n (i := i_Ne_hasWaiting) (pc := 0) d_Ne_hasWaiting_0 rfl rfl ?_
  refine zo_get (i := i_Ne_hasWaiting) (pc := 1) 2 5 rfl zok_Ne (Nat.le_of_ble_eq_true rfl) (ztb_of k_556 rfl) d_Ne_hasWaiting_1 (fun _ _ _ h => h) he rfl ?_
  refine zo_if_eq (i := i_Ne_hasWaiting) (pc := 4) (tgt := 11) d_Ne_hasWaiting_4 (by decide) (fun h4 => ?_) (fun h4 => ?_)
  · refine zo_iconst (i := i_Ne_hasWaiting) (pc := 11) (v := 0) d_Ne_hasWaiting_11 (by decide) ?_
    refine zo_zreturn (i := i_Ne_hasWaiting) (pc := 12) hq d_Ne_hasWaiting_12 rfl rfl (Nat.le_of_ble_eq_true rfl) (Nat.le_of_ble_eq_true rfl) ?_
    (simp [h4, zb] at k; exact k)
  · refine zo_iconst (i := i_Ne_hasWaiting) (pc := 7) (v := 1) d_Ne_hasWaiting_7 (by decide) ?_
    refine zo_goto (i := i_Ne_hasWaiting) (pc := 8) (tgt := 12) d_Ne_hasWaiting_8 (by decide) ?_
    refine zo_zreturn (i := i_Ne_hasWaiting) (pc := 12) hq d_Ne_hasWaiting_12 rfl rfl (Nat.le_of_ble_eq_true rfl) (Nat.le_of_ble_eq_true rfl) ?_
    (simp [h4, zb] at k; exact k)
theorem c_Ti_init {g : zG} {ws : va_W} {post : Option Value → va_W → Prop} {a : Nat} {R : va_W} {v1 v2 v3 : Value} {x1 x2 x3 : Int32} (hs : zHas ws ((a, .inr (7, [v1, v2, v3])) :: R)) (k : ∀ w, zHas w ((a, .inr (7, tdV (x1, x2, x3))) :: R) → post none w) : zC g i_Ti_init [.ref a, .int x1, .int x2, .int x3] ws post := by
  refine zC.intro (by decide +kernel) rfl (Nat.le_of_ble_eq_true rfl) fun x hq => ?_
  refine zo_aload_n (i := i_Ti_init) (pc := 0) d_Ti_init_0 rfl rfl ?_
  refine zo_objInit (i := i_Ti_init) (pc := 1) (ztb_of k_605 rfl) (ztb_of k_32 rfl) (ztb_of k_33 rfl) d_Ti_init_1 (Nat.le_of_ble_eq_true rfl) (Nat.le_of_ble_eq_true rfl) ?_
  refine zo_aload_n (i := i_Ti_init) (pc := 4) d_Ti_init_4 rfl rfl ?_
  refine zo_iload_n (i := i_Ti_init) (pc := 5) d_Ti_init_5 rfl ?_
  refine zh_putF (i := i_Ti_init) (pc := 6) 7 0 rfl zok_Ti (Nat.le_of_ble_eq_true rfl) (ztb_of k_606 rfl) rfl rfl rfl d_Ti_init_6 (fun _ _ _ h => h) (t_Ti_ok 0 (Nat.le_of_ble_eq_true rfl)) rfl rfl hs 0 rfl (Nat.le_of_ble_eq_true rfl) fun ws hs => ?_
  refine zo_aload_n (i := i_Ti_init) (pc := 9) d_Ti_init_9 rfl rfl ?_
  refine zo_iload_n (i := i_Ti_init) (pc := 10) d_Ti_init_10 rfl ?_
  refine zh_put (i := i_Ti_init) (pc := 11) 7 1 rfl zok_Ti (Nat.le_of_ble_eq_true rfl) (ztb_of k_609 rfl) rfl d_Ti_init_11 (fun _ _ _ h => h) (t_Ti_ok 1 (Nat.le_of_ble_eq_true rfl)) rfl rfl hs 0 rfl (Nat.le_of_ble_eq_true rfl) fun ws hs => ?_
  refine zo_aload_n (i := i_Ti_init) (pc := 14) d_Ti_init_14 rfl rfl ?_
  refine zo_iload_n (i := i_Ti_init) (pc := 15) d_Ti_init_15 rfl ?_
  refine zh_put (i := i_Ti_init) (pc := 16) 7 2 rfl zok_Ti (Nat.le_of_ble_eq_true rfl) (ztb_of k_611 rfl) rfl d_Ti_init_16 (fun _ _ _ h => h) (t_Ti_ok 2 (Nat.le_of_ble_eq_true rfl)) rfl rfl hs 0 rfl (Nat.le_of_ble_eq_true rfl) fun ws hs => ?_
  refine zo_return (i := i_Ti_init) (pc := 19) hq d_Ti_init_19 rfl (Nat.le_of_ble_eq_true rfl) (Nat.le_of_ble_eq_true rfl) ?_
  exact k ws hs
/-- the headers: object, two arrays; what they hold, how many -/
def hdW (g : zG) (a b c : Nat) (fk fn : Nat → Int32) (n : Int32) : va_W := [(a, .inr (1, [.ref b, .ref c, .int n])), (b, .inl (g.2.2.1.1, 6, .inl fk)), (c, .inl (g.2.2.1.1, 6, .inl fn))]
/-- what was sent: object, three arrays; what they hold; next, held, in all -/
def ouW (g : zG) (a b c d : Nat) (fk ft fx : Nat → Int32) (n h t : Int32) : va_W := [(a, .inr (4, [.ref b, .ref c, .ref d, .int n, .int h, .int t])), (b, .inl (g.2.2.1.1, 12, .inl fk)), (c, .inl (g.2.2.1.1, 12, .inl ft)), (d, .inl (g.2.2.1.1, 12, .inl fx))]
theorem c_Hd_init {g : zG} {ws : va_W} {post : Option Value → va_W → Prop} {a : Nat} {R : va_W} {v1 v2 v3 : Value} (hs : zHas ws ((a, .inr (1, [v1, v2, v3])) :: R)) (k : ∀ b c w, zHas w (hdW g a b c (fun _ => 0) (fun _ => 0) 0 ++ R) → post none w) : zC g i_Hd_init [.ref a] ws post := by
  refine zC.intro (by decide +kernel) rfl (Nat.le_of_ble_eq_true rfl) fun x hq => ?_
  refine zo_aload_n (i := i_Hd_init) (pc := 0) d_Hd_init_0 rfl rfl ?_
  refine zo_objInit (i := i_Hd_init) (pc := 1) (ztb_of k_133 rfl) (ztb_of k_32 rfl) (ztb_of k_33 rfl) d_Hd_init_1 (Nat.le_of_ble_eq_true rfl) (Nat.le_of_ble_eq_true rfl) ?_
  refine zo_aload_n (i := i_Hd_init) (pc := 4) d_Hd_init_4 rfl rfl ?_
  refine zo_bipush (i := i_Hd_init) (pc := 5) (v := 6) d_Hd_init_5 (by decide) ?_
  refine zh_newI (i := i_Hd_init) (pc := 7) (m := 6) d_Hd_init_7 (ztb_of k_64 rfl) (by decide) (by decide) (Nat.le_of_ble_eq_true rfl) (Nat.le_of_ble_eq_true rfl) (Nat.le_of_ble_eq_true rfl) hs fun a7 ws hs => ?_
  refine zh_putF (i := i_Hd_init) (pc := 9) 1 0 rfl zok_Hd (Nat.le_of_ble_eq_true rfl) (ztb_of k_134 rfl) rfl rfl rfl d_Hd_init_9 (fun _ _ _ h => h) (t_Hd_ok 0 (Nat.le_of_ble_eq_true rfl)) rfl rfl hs 1 rfl (Nat.le_of_ble_eq_true rfl) fun ws hs => ?_
  refine zo_aload_n (i := i_Hd_init) (pc := 12) d_Hd_init_12 rfl rfl ?_
  refine zo_bipush (i := i_Hd_init) (pc := 13) (v := 6) d_Hd_init_13 (by decide) ?_
  refine zh_newI (i := i_Hd_init) (pc := 15) (m := 6) d_Hd_init_15 (ztb_of k_64 rfl) (by decide) (by decide) (Nat.le_of_ble_eq_true rfl) (Nat.le_of_ble_eq_true rfl) (Nat.le_of_ble_eq_true rfl) hs fun a15 ws hs => ?_
  refine zh_putF (i := i_Hd_init) (pc := 17) 1 1 rfl zok_Hd (Nat.le_of_ble_eq_true rfl) (ztb_of k_136 rfl) rfl rfl rfl d_Hd_init_17 (fun _ _ _ h => h) (t_Hd_ok 1 (Nat.le_of_ble_eq_true rfl)) rfl rfl hs 2 rfl (Nat.le_of_ble_eq_true rfl) fun ws hs => ?_
  refine zo_aload_n (i := i_Hd_init) (pc := 20) d_Hd_init_20 rfl rfl ?_
  refine zo_iconst (i := i_Hd_init) (pc := 21) (v := 0) d_Hd_init_21 (by decide) ?_
  refine zh_put (i := i_Hd_init) (pc := 22) 1 2 rfl zok_Hd (Nat.le_of_ble_eq_true rfl) (ztb_of k_138 rfl) rfl d_Hd_init_22 (fun _ _ _ h => h) (t_Hd_ok 2 (Nat.le_of_ble_eq_true rfl)) rfl rfl hs 2 rfl (Nat.le_of_ble_eq_true rfl) fun ws hs => ?_
  refine zo_return (i := i_Hd_init) (pc := 25) hq d_Hd_init_25 rfl (Nat.le_of_ble_eq_true rfl) (Nat.le_of_ble_eq_true rfl) ?_
  exact k _ _ ws (hs.perm ((List.Perm.swap _ _ _).trans ((List.Perm.cons _ (List.Perm.swap _ _ _)).trans (List.Perm.swap _ _ _))))
theorem c_Hd_isFull {g : zG} {ws : va_W} {post : Option Value → va_W → Prop} {a b c : Nat} {R : va_W} {fk fn : Nat → Int32} {n : Int32} (hs : zHas ws (hdW g a b c fk fn n ++ R)) (k : post (some (.int (zb (!decide (n < 6))))) ws) : zC g i_Hd_isFull [.ref a] ws post := by
  refine zC.intro (by decide +kernel) rfl (Nat.le_of_ble_eq_true rfl) fun x hq => ?_
  refine zo_aload_n (i := i_Hd_isFull) (pc := 0) d_Hd_isFull_0 rfl rfl ?_
  refine zo_get (i := i_Hd_isFull) (pc := 1) 1 2 rfl zok_Hd (Nat.le_of_ble_eq_true rfl) (ztb_of k_138 rfl) d_Hd_isFull_1 (fun _ _ _ h => h) (hs.get (t := 0) rfl) rfl ?_
  refine zo_bipush (i := i_Hd_isFull) (pc := 4) (v := 6) d_Hd_isFull_4 (by decide) ?_
  refine zo_icmp_lt (i := i_Hd_isFull) (pc := 6) (tgt := 13) d_Hd_isFull_6 (by decide) (fun h6 => ?_) (fun h6 => ?_)
  · refine zo_iconst (i := i_Hd_isFull) (pc := 13) (v := 0) d_Hd_isFull_13 (by decide) ?_
    refine zo_zreturn (i := i_Hd_isFull) (pc := 14) hq d_Hd_isFull_14 rfl rfl (Nat.le_of_ble_eq_true rfl) (Nat.le_of_ble_eq_true rfl) ?_
    (simp [h6, zb] at k; exact k)
  · refine zo_iconst (i := i_Hd_isFull) (pc := 9) (v := 1) d_Hd_isFull_9 (by decide) ?_
    refine zo_goto (i := i_Hd_isFull) (pc := 10) (tgt := 14) d_Hd_isFull_10 (by decide) ?_
    refine zo_zreturn (i := i_Hd_isFull) (pc := 14) hq d_Hd_isFull_14 rfl rfl (Nat.le_of_ble_eq_true rfl) (Nat.le_of_ble_eq_true rfl) ?_
    (simp [h6, zb] at k; exact k)
theorem c_Hd_add {g : zG} {ws : va_W} {post : Option Value → va_W → Prop} {a b c : Nat} {R : va_W} {fk fn : Nat → Int32} {n : Int32} (hs : zHas ws (hdW g a b c fk fn n ++ R)) {x1 x2 : Int32} (hn : vp_in n 6) (k : ∀ w, zHas w (hdW g a b c (upd fk n.toNatClampNeg x1) (upd fn n.toNatClampNeg x2) (n + 1) ++ R) → post none w) : zC g i_Hd_add [.ref a, .int x1, .int x2] ws post := by
  refine zC.intro (by decide +kernel) rfl (Nat.le_of_ble_eq_true rfl) fun x hq => ?_
  refine zo_aload_n (i := i_Hd_add) (pc := 0) d_Hd_add_0 rfl rfl ?_
  refine zo_get (i := i_Hd_add) (pc := 1) 1 0 rfl zok_Hd (Nat.le_of_ble_eq_true rfl) (ztb_of k_134 rfl) d_Hd_add_1 (fun _ _ _ h => h) (hs.get (t := 0) rfl) rfl ?_
  refine zo_aload_n (i := i_Hd_add) (pc := 4) d_Hd_add_4 rfl rfl ?_
  refine zo_get (i := i_Hd_add) (pc := 5) 1 2 rfl zok_Hd (Nat.le_of_ble_eq_true rfl) (ztb_of k_138 rfl) d_Hd_add_5 (fun _ _ _ h => h) (hs.get (t := 0) rfl) rfl ?_
  refine zo_iload_n (i := i_Hd_add) (pc := 8) d_Hd_add_8 rfl ?_
  refine zh_iastore (i := i_Hd_add) (pc := 9) d_Hd_add_9 hs 1 rfl hn fun ws hs => ?_
  refine zo_aload_n (i := i_Hd_add) (pc := 10) d_Hd_add_10 rfl rfl ?_
  refine zo_get (i := i_Hd_add) (pc := 11) 1 1 rfl zok_Hd (Nat.le_of_ble_eq_true rfl) (ztb_of k_136 rfl) d_Hd_add_11 (fun _ _ _ h => h) (hs.get (t := 0) rfl) rfl ?_
  refine zo_aload_n (i := i_Hd_add) (pc := 14) d_Hd_add_14 rfl rfl ?_
  refine zo_get (i := i_Hd_add) (pc := 15) 1 2 rfl zok_Hd (Nat.le_of_ble_eq_true rfl) (ztb_of k_138 rfl) d_Hd_add_15 (fun _ _ _ h => h) (hs.get (t := 0) rfl) rfl ?_
  refine zo_iload_n (i := i_Hd_add) (pc := 18) d_Hd_add_18 rfl ?_
  refine zh_iastore (i := i_Hd_add) (pc := 19) d_Hd_add_19 hs 2 rfl hn fun ws hs => ?_
  refine zo_aload_n (i := i_Hd_add) (pc := 20) d_Hd_add_20 rfl rfl ?_
  refine zo_dup (i := i_Hd_add) (pc := 21) d_Hd_add_21 rfl ?_
  refine zo_get (i := i_Hd_add) (pc := 22) 1 2 rfl zok_Hd (Nat.le_of_ble_eq_true rfl) (ztb_of k_138 rfl) d_Hd_add_22 (fun _ _ _ h => h) (hs.get (t := 0) rfl) rfl ?_
  refine zo_iconst (i := i_Hd_add) (pc := 25) (v := 1) d_Hd_add_25 (by decide) ?_
  refine zo_iadd (i := i_Hd_add) (pc := 26) d_Hd_add_26 ?_
  refine zh_put (i := i_Hd_add) (pc := 27) 1 2 rfl zok_Hd (Nat.le_of_ble_eq_true rfl) (ztb_of k_138 rfl) rfl d_Hd_add_27 (fun _ _ _ h => h) (t_Hd_ok 2 (Nat.le_of_ble_eq_true rfl)) rfl rfl hs 0 rfl (Nat.le_of_ble_eq_true rfl) fun ws hs => ?_
  refine zo_return (i := i_Hd_add) (pc := 30) hq d_Hd_add_30 rfl (Nat.le_of_ble_eq_true rfl) (Nat.le_of_ble_eq_true rfl) ?_
  exact k ws hs
theorem c_Hd_clear {g : zG} {ws : va_W} {post : Option Value → va_W → Prop} {a b c : Nat} {R : va_W} {fk fn : Nat → Int32} {n : Int32} (hs : zHas ws (hdW g a b c fk fn n ++ R)) (k : ∀ w, zHas w (hdW g a b c fk fn 0 ++ R) → post none w) : zC g i_Hd_clear [.ref a] ws post := by
  refine zC.intro (by decide +kernel) rfl (Nat.le_of_ble_eq_true rfl) fun x hq => ?_
  refine zo_aload_n (i := i_Hd_clear) (pc := 0) d_Hd_clear_0 rfl rfl ?_
  refine zo_iconst (i := i_Hd_clear) (pc := 1) (v := 0) d_Hd_clear_1 (by decide) ?_
  refine zh_put (i := i_Hd_clear) (pc := 2) 1 2 rfl zok_Hd (Nat.le_of_ble_eq_true rfl) (ztb_of k_138 rfl) rfl d_Hd_clear_2 (fun _ _ _ h => h) (t_Hd_ok 2 (Nat.le_of_ble_eq_true rfl)) rfl rfl hs 0 rfl (Nat.le_of_ble_eq_true rfl) fun ws hs => ?_
  refine zo_return (i := i_Hd_clear) (pc := 5) hq d_Hd_clear_5 rfl (Nat.le_of_ble_eq_true rfl) (Nat.le_of_ble_eq_true rfl) ?_
  exact k ws hs
theorem zrev4 {α : Type} (a b c d : α) (R : List α) : (d :: c :: b :: a :: R).Perm (a :: b :: c :: d :: R) := by
  have h1 : (d :: c :: b :: a :: R).Perm (d :: a :: c :: b :: R) := List.Perm.cons _ ((List.Perm.cons _ (List.Perm.swap _ _ _)).trans (List.Perm.swap _ _ _))
  have h2 : (d :: a :: c :: b :: R).Perm (a :: d :: c :: b :: R) := List.Perm.swap _ _ _
  have h3 : (d :: c :: b :: R).Perm (b :: c :: d :: R) := ((List.Perm.swap _ _ _).trans ((List.Perm.cons _ (List.Perm.swap _ _ _)).trans (List.Perm.swap _ _ _)))
  exact (h1.trans h2).trans (List.Perm.cons _ h3)
theorem c_Ou_init {g : zG} {ws : va_W} {post : Option Value → va_W → Prop} {a : Nat} {R : va_W} {v1 v2 v3 v4 v5 v6 : Value} (hs : zHas ws ((a, .inr (4, [v1, v2, v3, v4, v5, v6])) :: R)) (k : ∀ b c d w, zHas w (ouW g a b c d (fun _ => 0) (fun _ => 0) (fun _ => 0) 0 0 0 ++ R) → post none w) : zC g i_Ou_init [.ref a] ws post := by
  refine zC.intro (by decide +kernel) rfl (Nat.le_of_ble_eq_true rfl) fun x hq => ?_
  refine zo_aload_n (i := i_Ou_init) (pc := 0) d_Ou_init_0 rfl rfl ?_
  refine zo_objInit (i := i_Ou_init) (pc := 1) (ztb_of k_39 rfl) (ztb_of k_32 rfl) (ztb_of k_33 rfl) d_Ou_init_1 (Nat.le_of_ble_eq_true rfl) (Nat.le_of_ble_eq_true rfl) ?_
  refine zo_aload_n (i := i_Ou_init) (pc := 4) d_Ou_init_4 rfl rfl ?_
  refine zo_bipush (i := i_Ou_init) (pc := 5) (v := 12) d_Ou_init_5 (by decide) ?_
  refine zh_newI (i := i_Ou_init) (pc := 7) (m := 12) d_Ou_init_7 (ztb_of k_64 rfl) (by decide) (by decide) (Nat.le_of_ble_eq_true rfl) (Nat.le_of_ble_eq_true rfl) (Nat.le_of_ble_eq_true rfl) hs fun a7 ws hs => ?_
  refine zh_putF (i := i_Ou_init) (pc := 9) 4 0 rfl zok_Ou (Nat.le_of_ble_eq_true rfl) (ztb_of k_40 rfl) rfl rfl rfl d_Ou_init_9 (fun _ _ _ h => h) (t_Ou_ok 0 (Nat.le_of_ble_eq_true rfl)) rfl rfl hs 1 rfl (Nat.le_of_ble_eq_true rfl) fun ws hs => ?_
  refine zo_aload_n (i := i_Ou_init) (pc := 12) d_Ou_init_12 rfl rfl ?_
  refine zo_bipush (i := i_Ou_init) (pc := 13) (v := 12) d_Ou_init_13 (by decide) ?_
  refine zh_newI (i := i_Ou_init) (pc := 15) (m := 12) d_Ou_init_15 (ztb_of k_64 rfl) (by decide) (by decide) (Nat.le_of_ble_eq_true rfl) (Nat.le_of_ble_eq_true rfl) (Nat.le_of_ble_eq_true rfl) hs fun a15 ws hs => ?_
  refine zh_putF (i := i_Ou_init) (pc := 17) 4 1 rfl zok_Ou (Nat.le_of_ble_eq_true rfl) (ztb_of k_42 rfl) rfl rfl rfl d_Ou_init_17 (fun _ _ _ h => h) (t_Ou_ok 1 (Nat.le_of_ble_eq_true rfl)) rfl rfl hs 2 rfl (Nat.le_of_ble_eq_true rfl) fun ws hs => ?_
  refine zo_aload_n (i := i_Ou_init) (pc := 20) d_Ou_init_20 rfl rfl ?_
  refine zo_bipush (i := i_Ou_init) (pc := 21) (v := 12) d_Ou_init_21 (by decide) ?_
  refine zh_newI (i := i_Ou_init) (pc := 23) (m := 12) d_Ou_init_23 (ztb_of k_64 rfl) (by decide) (by decide) (Nat.le_of_ble_eq_true rfl) (Nat.le_of_ble_eq_true rfl) (Nat.le_of_ble_eq_true rfl) hs fun a23 ws hs => ?_
  refine zh_putF (i := i_Ou_init) (pc := 25) 4 2 rfl zok_Ou (Nat.le_of_ble_eq_true rfl) (ztb_of k_44 rfl) rfl rfl rfl d_Ou_init_25 (fun _ _ _ h => h) (t_Ou_ok 2 (Nat.le_of_ble_eq_true rfl)) rfl rfl hs 3 rfl (Nat.le_of_ble_eq_true rfl) fun ws hs => ?_
  refine zo_aload_n (i := i_Ou_init) (pc := 28) d_Ou_init_28 rfl rfl ?_
  refine zo_iconst (i := i_Ou_init) (pc := 29) (v := 0) d_Ou_init_29 (by decide) ?_
  refine zh_put (i := i_Ou_init) (pc := 30) 4 3 rfl zok_Ou (Nat.le_of_ble_eq_true rfl) (ztb_of k_46 rfl) rfl d_Ou_init_30 (fun _ _ _ h => h) (t_Ou_ok 3 (Nat.le_of_ble_eq_true rfl)) rfl rfl hs 3 rfl (Nat.le_of_ble_eq_true rfl) fun ws hs => ?_
  refine zo_aload_n (i := i_Ou_init) (pc := 33) d_Ou_init_33 rfl rfl ?_
  refine zo_iconst (i := i_Ou_init) (pc := 34) (v := 0) d_Ou_init_34 (by decide) ?_
  refine zh_put (i := i_Ou_init) (pc := 35) 4 4 rfl zok_Ou (Nat.le_of_ble_eq_true rfl) (ztb_of k_47 rfl) rfl d_Ou_init_35 (fun _ _ _ h => h) (t_Ou_ok 4 (Nat.le_of_ble_eq_true rfl)) rfl rfl hs 3 rfl (Nat.le_of_ble_eq_true rfl) fun ws hs => ?_
  refine zo_aload_n (i := i_Ou_init) (pc := 38) d_Ou_init_38 rfl rfl ?_
  refine zo_iconst (i := i_Ou_init) (pc := 39) (v := 0) d_Ou_init_39 (by decide) ?_
  refine zh_put (i := i_Ou_init) (pc := 40) 4 5 rfl zok_Ou (Nat.le_of_ble_eq_true rfl) (ztb_of k_49 rfl) rfl d_Ou_init_40 (fun _ _ _ h => h) (t_Ou_ok 5 (Nat.le_of_ble_eq_true rfl)) rfl rfl hs 3 rfl (Nat.le_of_ble_eq_true rfl) fun ws hs => ?_
  refine zo_return (i := i_Ou_init) (pc := 43) hq d_Ou_init_43 rfl (Nat.le_of_ble_eq_true rfl) (Nat.le_of_ble_eq_true rfl) ?_
  exact k _ _ _ ws (hs.perm (zrev4 _ _ _ _ _))
theorem c_Ou_add {g : zG} {ws : va_W} {post : Option Value → va_W → Prop} {a b c d : Nat} {R : va_W} {fk ft fx : Nat → Int32} {n h t : Int32} (hs : zHas ws (ouW g a b c d fk ft fx n h t ++ R)) {x1 x2 x3 : Int32} (hn : vp_in n 12) (k : ∀ w, zHas w (ouW g a b c d (upd fk n.toNatClampNeg x1) (upd ft n.toNatClampNeg x2) (upd fx n.toNatClampNeg x3) (n + 1 - (n + 1) / 12 * 12) (if 12 < h + 1 then 12 else h + 1) (t + 1) ++ R) → post none w) : zC g i_Ou_add [.ref a, .int x1, .int x2, .int x3] ws post := by
  refine zC.intro (by decide +kernel) rfl (Nat.le_of_ble_eq_true rfl) fun x hq => ?_
  refine zo_aload_n (i := i_Ou_add) (pc := 0) d_Ou_add_0 rfl rfl ?_
  refine zo_get (i := i_Ou_add) (pc := 1) 4 0 rfl zok_Ou (Nat.le_of_ble_eq_true rfl) (ztb_of k_40 rfl) d_Ou_add_1 (fun _ _ _ h => h) (hs.get (t := 0) rfl) rfl ?_
  refine zo_aload_n (i := i_Ou_add) (pc := 4) d_Ou_add_4 rfl rfl ?_
  refine zo_get (i := i_Ou_add) (pc := 5) 4 3 rfl zok_Ou (Nat.le_of_ble_eq_true rfl) (ztb_of k_46 rfl) d_Ou_add_5 (fun _ _ _ h => h) (hs.get (t := 0) rfl) rfl ?_
  refine zo_iload_n (i := i_Ou_add) (pc := 8) d_Ou_add_8 rfl ?_
  refine zh_iastore (i := i_Ou_add) (pc := 9) d_Ou_add_9 hs 1 rfl hn fun ws hs => ?_
  refine zo_aload_n (i := i_Ou_add) (pc := 10) d_Ou_add_10 rfl rfl ?_
  refine zo_get (i := i_Ou_add) (pc := 11) 4 1 rfl zok_Ou (Nat.le_of_ble_eq_true rfl) (ztb_of k_42 rfl) d_Ou_add_11 (fun _ _ _ h => h) (hs.get (t := 0) rfl) rfl ?_
  refine zo_aload_n (i := i_Ou_add) (pc := 14) d_Ou_add_14 rfl rfl ?_
  refine zo_get (i := i_Ou_add) (pc := 15) 4 3 rfl zok_Ou (Nat.le_of_ble_eq_true rfl) (ztb_of k_46 rfl) d_Ou_add_15 (fun _ _ _ h => h) (hs.get (t := 0) rfl) rfl ?_
  refine zo_iload_n (i := i_Ou_add) (pc := 18) d_Ou_add_18 rfl ?_
  refine zh_iastore (i := i_Ou_add) (pc := 19) d_Ou_add_19 hs 2 rfl hn fun ws hs => ?_
  refine zo_aload_n (i := i_Ou_add) (pc := 20) d_Ou_add_20 rfl rfl ?_
  refine zo_get (i := i_Ou_add) (pc := 21) 4 2 rfl zok_Ou (Nat.le_of_ble_eq_true rfl) (ztb_of k_44 rfl) d_Ou_add_21 (fun _ _ _ h => h) (hs.get (t := 0) rfl) rfl ?_
  refine zo_aload_n (i := i_Ou_add) (pc := 24) d_Ou_add_24 rfl rfl ?_
  refine zo_get (i := i_Ou_add) (pc := 25) 4 3 rfl zok_Ou (Nat.le_of_ble_eq_true rfl) (ztb_of k_46 rfl) d_Ou_add_25 (fun _ _ _ h => h) (hs.get (t := 0) rfl) rfl ?_
  refine zo_iload_n (i := i_Ou_add) (pc := 28) d_Ou_add_28 rfl ?_
  refine zh_iastore (i := i_Ou_add) (pc := 29) d_Ou_add_29 hs 3 rfl hn fun ws hs => ?_
  refine zo_aload_n (i := i_Ou_add) (pc := 30) d_Ou_add_30 rfl rfl ?_
  refine zo_aload_n (i := i_Ou_add) (pc := 31) d_Ou_add_31 rfl rfl ?_
  refine zo_get (i := i_Ou_add) (pc := 32) 4 3 rfl zok_Ou (Nat.le_of_ble_eq_true rfl) (ztb_of k_46 rfl) d_Ou_add_32 (fun _ _ _ h => h) (hs.get (t := 0) rfl) rfl ?_
  refine zo_iconst (i := i_Ou_add) (pc := 35) (v := 1) d_Ou_add_35 (by decide) ?_
  refine zo_iadd (i := i_Ou_add) (pc := 36) d_Ou_add_36 ?_
  refine zo_bipush (i := i_Ou_add) (pc := 37) (v := 12) d_Ou_add_37 (by decide) ?_
  refine zo_irem (i := i_Ou_add) (pc := 39) d_Ou_add_39 (by decide) ?_
  refine zh_put (i := i_Ou_add) (pc := 40) 4 3 rfl zok_Ou (Nat.le_of_ble_eq_true rfl) (ztb_of k_46 rfl) rfl d_Ou_add_40 (fun _ _ _ h => h) (t_Ou_ok 3 (Nat.le_of_ble_eq_true rfl)) rfl rfl hs 0 rfl (Nat.le_of_ble_eq_true rfl) fun ws hs => ?_
  refine zo_aload_n (i := i_Ou_add) (pc := 43) d_Ou_add_43 rfl rfl ?_
  refine zo_aload_n (i := i_Ou_add) (pc := 44) d_Ou_add_44 rfl rfl ?_
  refine zo_get (i := i_Ou_add) (pc := 45) 4 4 rfl zok_Ou (Nat.le_of_ble_eq_true rfl) (ztb_of k_47 rfl) d_Ou_add_45 (fun _ _ _ h => h) (hs.get (t := 0) rfl) rfl ?_
  refine zo_iconst (i := i_Ou_add) (pc := 48) (v := 1) d_Ou_add_48 (by decide) ?_
  refine zo_iadd (i := i_Ou_add) (pc := 49) d_Ou_add_49 ?_
  refine zo_bipush (i := i_Ou_add) (pc := 50) (v := 12) d_Ou_add_50 (by decide) ?_
  refine zc_S2 (i := i_Ou_add) (pc := 52) m_Ma_min (ztb_of k_261 rfl) (ztb_of k_148 rfl) d_Ou_add_52 (Nat.le_of_ble_eq_true rfl) (Nat.le_of_ble_eq_true rfl) (Nat.le_of_ble_eq_true rfl) (Nat.le_of_ble_eq_true rfl) (c_Ma_min ?_)
  refine zh_put (i := i_Ou_add) (pc := 55) 4 4 rfl zok_Ou (Nat.le_of_ble_eq_true rfl) (ztb_of k_47 rfl) rfl d_Ou_add_55 (fun _ _ _ h => h) (t_Ou_ok 4 (Nat.le_of_ble_eq_true rfl)) rfl rfl hs 0 rfl (Nat.le_of_ble_eq_true rfl) fun ws hs => ?_
  refine zo_aload_n (i := i_Ou_add) (pc := 58) d_Ou_add_58 rfl rfl ?_
  refine zo_dup (i := i_Ou_add) (pc := 59) d_Ou_add_59 rfl ?_
  refine zo_get (i := i_Ou_add) (pc := 60) 4 5 rfl zok_Ou (Nat.le_of_ble_eq_true rfl) (ztb_of k_49 rfl) d_Ou_add_60 (fun _ _ _ h => h) (hs.get (t := 0) rfl) rfl ?_
  refine zo_iconst (i := i_Ou_add) (pc := 63) (v := 1) d_Ou_add_63 (by decide) ?_
  refine zo_iadd (i := i_Ou_add) (pc := 64) d_Ou_add_64 ?_
  refine zh_put (i := i_Ou_add) (pc := 65) 4 5 rfl zok_Ou (Nat.le_of_ble_eq_true rfl) (ztb_of k_49 rfl) rfl d_Ou_add_65 (fun _ _ _ h => h) (t_Ou_ok 5 (Nat.le_of_ble_eq_true rfl)) rfl rfl hs 0 rfl (Nat.le_of_ble_eq_true rfl) fun ws hs => ?_
  refine zo_return (i := i_Ou_add) (pc := 68) hq d_Ou_add_68 rfl (Nat.le_of_ble_eq_true rfl) (Nat.le_of_ble_eq_true rfl) ?_
  exact k ws hs
theorem c_Ou_slot {g : zG} {ws : va_W} {post : Option Value → va_W → Prop} {a b c d : Nat} {R : va_W} {fk ft fx : Nat → Int32} {n h t : Int32} (hs : zHas ws (ouW g a b c d fk ft fx n h t ++ R)) {j : Int32} (k : post (some (.int (zfm (n - 1 - j) 12))) ws) : zC g i_Ou_slot [.ref a, .int j] ws post := by
  refine zC.intro (by decide +kernel) rfl (Nat.le_of_ble_eq_true rfl) fun x hq => ?_
  refine zo_aload_n (i := i_Ou_slot) (pc := 0) d_Ou_slot_0 rfl rfl ?_
  refine zo_get (i := i_Ou_slot) (pc := 1) 4 3 rfl zok_Ou (Nat.le_of_ble_eq_true rfl) (ztb_of k_46 rfl) d_Ou_slot_1 (fun _ _ _ h => h) (hs.get (t := 0) rfl) rfl ?_
  refine zo_iconst (i := i_Ou_slot) (pc := 4) (v := 1) d_Ou_slot_4 (by decide) ?_
  refine zo_isub (i := i_Ou_slot) (pc := 5) d_Ou_slot_5 ?_
  refine zo_iload_n (i := i_Ou_slot) (pc := 6) d_Ou_slot_6 rfl ?_
  refine zo_isub (i := i_Ou_slot) (pc := 7) d_Ou_slot_7 ?_
  refine zo_bipush (i := i_Ou_slot) (pc := 8) (v := 12) d_Ou_slot_8 (by decide) ?_
  refine zc_S2 (i := i_Ou_slot) (pc := 10) m_Ma_floorMod (ztb_of k_821 rfl) (ztb_of k_822 rfl) d_Ou_slot_10 (Nat.le_of_ble_eq_true rfl) (Nat.le_of_ble_eq_true rfl) (Nat.le_of_ble_eq_true rfl) (Nat.le_of_ble_eq_true rfl) (c_Ma_floorMod (by decide) ?_)
  refine zo_ireturn (i := i_Ou_slot) (pc := 13) hq d_Ou_slot_13 rfl (Nat.le_of_ble_eq_true rfl) (Nat.le_of_ble_eq_true rfl) ?_
  exact k
