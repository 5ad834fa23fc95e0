/-! The JDK's own methods that the class reaches: contracts (walks by a program, gen10.py). -/
theorem c_Ma_max {g : zG} {ws : va_W} {post : Option Value → va_W → Prop} {a b : Int32} (k : post (some (.int (if a < b then b else a))) ws) : zC g i_Ma_max [.int a, .int b] ws post := by
  refine zC.intro (by decide +kernel) rfl (Nat.le_of_ble_eq_true rfl) fun x hq => ?_
  refine zo_iload_n (i := i_Ma_max) (pc := 0) d_Ma_max_0 rfl ?_
  refine zo_iload_n (i := i_Ma_max) (pc := 1) d_Ma_max_1 rfl ?_
  refine zo_icmp_lt (i := i_Ma_max) (pc := 2) (tgt := 9) d_Ma_max_2 (by decide) (fun h2 => ?_) (fun h2 => ?_)
  · refine zo_iload_n (i := i_Ma_max) (pc := 9) d_Ma_max_9 rfl ?_
    refine zo_ireturn (i := i_Ma_max) (pc := 10) hq d_Ma_max_10 rfl (Nat.le_of_ble_eq_true rfl) (Nat.le_of_ble_eq_true rfl) ?_
    first | (rw [if_pos h2] at k; exact k) | (rw [if_neg h2] at k; exact k)
  · refine zo_iload_n (i := i_Ma_max) (pc := 5) d_Ma_max_5 rfl ?_
    refine zo_goto (i := i_Ma_max) (pc := 6) (tgt := 10) d_Ma_max_6 (by decide) ?_
    refine zo_ireturn (i := i_Ma_max) (pc := 10) hq d_Ma_max_10 rfl (Nat.le_of_ble_eq_true rfl) (Nat.le_of_ble_eq_true rfl) ?_
    first | (rw [if_pos h2] at k; exact k) | (rw [if_neg h2] at k; exact k)
theorem c_Ma_min {g : zG} {ws : va_W} {post : Option Value → va_W → Prop} {a b : Int32} (k : post (some (.int (if b < a then b else a))) ws) : zC g i_Ma_min [.int a, .int b] ws post := by
  refine zC.intro (by decide +kernel) rfl (Nat.le_of_ble_eq_true rfl) fun x hq => ?_
  refine zo_iload_n (i := i_Ma_min) (pc := 0) d_Ma_min_0 rfl ?_
  refine zo_iload_n (i := i_Ma_min) (pc := 1) d_Ma_min_1 rfl ?_
  refine zo_icmp_gt (i := i_Ma_min) (pc := 2) (tgt := 9) d_Ma_min_2 (by decide) (fun h2 => ?_) (fun h2 => ?_)
  · refine zo_iload_n (i := i_Ma_min) (pc := 9) d_Ma_min_9 rfl ?_
    refine zo_ireturn (i := i_Ma_min) (pc := 10) hq d_Ma_min_10 rfl (Nat.le_of_ble_eq_true rfl) (Nat.le_of_ble_eq_true rfl) ?_
    first | (rw [if_pos h2] at k; exact k) | (rw [if_neg h2] at k; exact k)
  · refine zo_iload_n (i := i_Ma_min) (pc := 5) d_Ma_min_5 rfl ?_
    refine zo_goto (i := i_Ma_min) (pc := 6) (tgt := 10) d_Ma_min_6 (by decide) ?_
    refine zo_ireturn (i := i_Ma_min) (pc := 10) hq d_Ma_min_10 rfl (Nat.le_of_ble_eq_true rfl) (Nat.le_of_ble_eq_true rfl) ?_
    first | (rw [if_pos h2] at k; exact k) | (rw [if_neg h2] at k; exact k)
/-- floorMod(x, y), y not 0 -/
def zfm (a b : Int32) : Int32 := if 0 ≤ a ^^^ b then a - a / b * b else (if a - a / b * b = 0 then a - a / b * b else a - a / b * b + b)
theorem c_Ma_floorMod {g : zG} {ws : va_W} {post : Option Value → va_W → Prop} {a b : Int32} (hb : ¬ b = 0) (k : post (some (.int (zfm a b))) ws) : zC g i_Ma_floorMod [.int a, .int b] ws post := by
  refine zC.intro (by decide +kernel) rfl (Nat.le_of_ble_eq_true rfl) fun x hq => ?_
  refine zo_iload_n (i := i_Ma_floorMod) (pc := 0) d_Ma_floorMod_0 rfl ?_
  refine zo_iload_n (i := i_Ma_floorMod) (pc := 1) d_Ma_floorMod_1 rfl ?_
  refine zo_irem (i := i_Ma_floorMod) (pc := 2) d_Ma_floorMod_2 hb ?_
  refine zo_istore_n (i := i_Ma_floorMod) (pc := 3) d_Ma_floorMod_3 (Nat.le_of_ble_eq_true rfl) ?_
  refine zo_iload_n (i := i_Ma_floorMod) (pc := 4) d_Ma_floorMod_4 rfl ?_
  refine zo_iload_n (i := i_Ma_floorMod) (pc := 5) d_Ma_floorMod_5 rfl ?_
  refine zo_ixor (i := i_Ma_floorMod) (pc := 6) d_Ma_floorMod_6 ?_
  refine zo_if_ge (i := i_Ma_floorMod) (pc := 7) (tgt := 18) d_Ma_floorMod_7 (by decide) (fun h7 => ?_) (fun h7 => ?_)
  · refine zo_iload_n (i := i_Ma_floorMod) (pc := 18) d_Ma_floorMod_18 rfl ?_
    refine zo_ireturn (i := i_Ma_floorMod) (pc := 19) hq d_Ma_floorMod_19 rfl (Nat.le_of_ble_eq_true rfl) (Nat.le_of_ble_eq_true rfl) ?_
    first | (rw [zfm, if_pos h7] at k; exact k) | (rw [zfm, if_neg h7, if_pos h11] at k; exact k) | (rw [zfm, if_neg h7, if_neg h11] at k; exact k)
  · refine zo_iload_n (i := i_Ma_floorMod) (pc := 10) d_Ma_floorMod_10 rfl ?_
    refine zo_if_eq (i := i_Ma_floorMod) (pc := 11) (tgt := 18) d_Ma_floorMod_11 (by decide) (fun h11 => ?_) (fun h11 => ?_)
    · refine zo_iload_n (i := i_Ma_floorMod) (pc := 18) d_Ma_floorMod_18 rfl ?_
      refine zo_ireturn (i := i_Ma_floorMod) (pc := 19) hq d_Ma_floorMod_19 rfl (Nat.le_of_ble_eq_true rfl) (Nat.le_of_ble_eq_true rfl) ?_
      first | (rw [zfm, if_pos h7] at k; exact k) | (rw [zfm, if_neg h7, if_pos h11] at k; exact k) | (rw [zfm, if_neg h7, if_neg h11] at k; exact k)
    · refine zo_iload_n (i := i_Ma_floorMod) (pc := 14) d_Ma_floorMod_14 rfl ?_
      refine zo_iload_n (i := i_Ma_floorMod) (pc := 15) d_Ma_floorMod_15 rfl ?_
      refine zo_iadd (i := i_Ma_floorMod) (pc := 16) d_Ma_floorMod_16 ?_
      refine zo_ireturn (i := i_Ma_floorMod) (pc := 17) hq d_Ma_floorMod_17 rfl (Nat.le_of_ble_eq_true rfl) (Nat.le_of_ble_eq_true rfl) ?_
      first | (rw [zfm, if_pos h7] at k; exact k) | (rw [zfm, if_neg h7, if_pos h11] at k; exact k) | (rw [zfm, if_neg h7, if_neg h11] at k; exact k)
theorem c_Pc_checkIndex {g : zG} {ws : va_W} {post : Option Value → va_W → Prop} {a b : Int32} (hA : ¬ a < 0) (hB : a < b) (k : post (some (.int a)) ws) : zC g i_Pc_checkIndex [.int a, .int b, .null] ws post := by
  refine zC.intro (by decide +kernel) rfl (Nat.le_of_ble_eq_true rfl) fun x hq => ?_
  refine zo_iload_n (i := i_Pc_checkIndex) (pc := 0) d_Pc_checkIndex_0 rfl ?_
  refine zo_if_lt (i := i_Pc_checkIndex) (pc := 1) (tgt := 9) d_Pc_checkIndex_1 (by decide) (fun h1 => False.elim (by first | exact absurd h1 (hA) | exact absurd (hA) h1)) (fun h1 => ?_)
  refine zo_iload_n (i := i_Pc_checkIndex) (pc := 4) d_Pc_checkIndex_4 rfl ?_
  refine zo_iload_n (i := i_Pc_checkIndex) (pc := 5) d_Pc_checkIndex_5 rfl ?_
  refine zo_icmp_lt (i := i_Pc_checkIndex) (pc := 6) (tgt := 16) d_Pc_checkIndex_6 (by decide) (fun h6 => ?_) (fun h6 => False.elim (by first | exact absurd h6 (hB) | exact absurd (hB) h6))
  refine zo_iload_n (i := i_Pc_checkIndex) (pc := 16) d_Pc_checkIndex_16 rfl ?_
  refine zo_ireturn (i := i_Pc_checkIndex) (pc := 17) hq d_Pc_checkIndex_17 rfl (Nat.le_of_ble_eq_true rfl) (Nat.le_of_ble_eq_true rfl) ?_
  exact k
theorem c_Ob_checkIndex {g : zG} {ws : va_W} {post : Option Value → va_W → Prop} {a b : Int32} (hA : ¬ a < 0) (hB : a < b) (k : post (some (.int a)) ws) : zC g i_Ob_checkIndex [.int a, .int b] ws post := by
  refine zC.intro (by decide +kernel) rfl (Nat.le_of_ble_eq_true rfl) fun x hq => ?_
  refine zo_iload_n (i := i_Ob_checkIndex) (pc := 0) d_Ob_checkIndex_0 rfl ?_
  refine zo_iload_n (i := i_Ob_checkIndex) (pc := 1) d_Ob_checkIndex_1 rfl ?_
  refine zo_null (i := i_Ob_checkIndex) (pc := 2) d_Ob_checkIndex_2 ?_
  refine zc_S3 (i := i_Ob_checkIndex) (pc := 3) m_Pc_checkIndex (ztb_of k_324 rfl) (ztb_of k_325 rfl) d_Ob_checkIndex_3 (Nat.le_of_ble_eq_true rfl) (Nat.le_of_ble_eq_true rfl) (Nat.le_of_ble_eq_true rfl) (Nat.le_of_ble_eq_true rfl) (c_Pc_checkIndex hA hB ?_)
  refine zo_ireturn (i := i_Ob_checkIndex) (pc := 6) hq d_Ob_checkIndex_6 rfl (Nat.le_of_ble_eq_true rfl) (Nat.le_of_ble_eq_true rfl) ?_
  exact k
theorem c_Al_size {g : zG} {ws : va_W} {post : Option Value → va_W → Prop} {l : Nat} {v : Value} {n m : Int32} (he : zget ws l = some (.inr (0, [v, .int n, .int m]))) (k : post (some (.int n)) ws) : zC g i_Al_size [.ref l] ws post := by
  refine zC.intro (by decide +kernel) rfl (Nat.le_of_ble_eq_true rfl) fun x hq => ?_
  refine zo_aload_n (i := i_Al_size) (pc := 0) d_Al_size_0 rfl rfl ?_
  refine zo_get (i := i_Al_size) (pc := 1) 0 1 rfl zok_Al (Nat.le_of_ble_eq_true rfl) (ztb_of k_86 rfl) d_Al_size_1 (fun _ _ _ h => h) he rfl ?_
  refine zo_ireturn (i := i_Al_size) (pc := 4) hq d_Al_size_4 rfl (Nat.le_of_ble_eq_true rfl) (Nat.le_of_ble_eq_true rfl) ?_
  exact k
theorem c_Al_isEmpty {g : zG} {ws : va_W} {post : Option Value → va_W → Prop} {l : Nat} {v : Value} {n m : Int32} (he : zget ws l = some (.inr (0, [v, .int n, .int m]))) (k : post (some (.int (if n = 0 then 1 else 0))) ws) : zC g i_Al_isEmpty [.ref l] ws post := by
  refine zC.intro (by decide +kernel) rfl (Nat.le_of_ble_eq_true rfl) fun x hq => ?_
  refine zo_aload_n (i := i_Al_isEmpty) (pc := 0) d_Al_isEmpty_0 rfl rfl ?_
  refine zo_get (i := i_Al_isEmpty) (pc := 1) 0 1 rfl zok_Al (Nat.le_of_ble_eq_true rfl) (ztb_of k_86 rfl) d_Al_isEmpty_1 (fun _ _ _ h => h) he rfl ?_
  refine zo_if_ne (i := i_Al_isEmpty) (pc := 4) (tgt := 11) d_Al_isEmpty_4 (by decide) (fun h4 => ?_) (fun h4 => ?_)
  · refine zo_iconst (i := i_Al_isEmpty) (pc := 11) (v := 0) d_Al_isEmpty_11 (by decide) ?_
    refine zo_zreturn (i := i_Al_isEmpty) (pc := 12) hq d_Al_isEmpty_12 rfl rfl (Nat.le_of_ble_eq_true rfl) (Nat.le_of_ble_eq_true rfl) ?_
    first | (rw [if_pos h4] at k; exact k) | (rw [if_neg h4] at k; exact k)
  · refine zo_iconst (i := i_Al_isEmpty) (pc := 7) (v := 1) d_Al_isEmpty_7 (by decide) ?_
    refine zo_goto (i := i_Al_isEmpty) (pc := 8) (tgt := 12) d_Al_isEmpty_8 (by decide) ?_
    refine zo_zreturn (i := i_Al_isEmpty) (pc := 12) hq d_Al_isEmpty_12 rfl rfl (Nat.le_of_ble_eq_true rfl) (Nat.le_of_ble_eq_true rfl) ?_
    first | (rw [if_pos h4] at k; exact k) | (rw [if_neg h4] at k; exact k)
theorem c_Al_elementData {g : zG} {ws : va_W} {post : Option Value → va_W → Prop} {l b : Nat} {j n m : Int32} {d : Nat} {c : Nat} {f : Nat → Option Nat} (hd : zget ws d = some (.inl (g.2.2.1.2.1, c, .inr (.inr (.inr (.inr f)))))) (he : zget ws l = some (.inr (0, [.ref d, .int n, .int m]))) (hin : vp_in j c) (hf : f j.toNatClampNeg = some b) (k : post (some (.ref b)) ws) : zC g i_Al_elementData [.ref l, .int j] ws post := by
  refine zC.intro (by decide +kernel) rfl (Nat.le_of_ble_eq_true rfl) fun x hq => ?_
  refine zo_aload_n (i := i_Al_elementData) (pc := 0) d_Al_elementData_0 rfl rfl ?_
  refine zo_get (i := i_Al_elementData) (pc := 1) 0 0 rfl zok_Al (Nat.le_of_ble_eq_true rfl) (ztb_of k_85 rfl) d_Al_elementData_1 (fun _ _ _ h => h) he rfl ?_
  refine zo_iload_n (i := i_Al_elementData) (pc := 4) d_Al_elementData_4 rfl ?_
  refine zo_aaloadS (i := i_Al_elementData) (pc := 5) d_Al_elementData_5 hd hin hf ?_
  refine zo_areturn (i := i_Al_elementData) (pc := 6) hq d_Al_elementData_6 rfl (.inl ⟨_, rfl⟩) (.inr ⟨_, rfl⟩) (Nat.le_of_ble_eq_true rfl) (Nat.le_of_ble_eq_true rfl) ?_
  exact k
theorem c_Al_get {g : zG} {ws : va_W} {post : Option Value → va_W → Prop} {l b : Nat} {j n m : Int32} {d : Nat} {c : Nat} {f : Nat → Option Nat} (hd : zget ws d = some (.inl (g.2.2.1.2.1, c, .inr (.inr (.inr (.inr f)))))) (he : zget ws l = some (.inr (0, [.ref d, .int n, .int m]))) (hA : ¬ j < 0) (hB : j < n) (hin : vp_in j c) (hf : f j.toNatClampNeg = some b) (k : post (some (.ref b)) ws) : zC g i_Al_get [.ref l, .int j] ws post := by
  refine zC.intro (by decide +kernel) rfl (Nat.le_of_ble_eq_true rfl) fun x hq => ?_
  refine zo_iload_n (i := i_Al_get) (pc := 0) d_Al_get_0 rfl ?_
  refine zo_aload_n (i := i_Al_get) (pc := 1) d_Al_get_1 rfl rfl ?_
  refine zo_get (i := i_Al_get) (pc := 2) 0 1 rfl zok_Al (Nat.le_of_ble_eq_true rfl) (ztb_of k_86 rfl) d_Al_get_2 (fun _ _ _ h => h) he rfl ?_
  refine zc_S2 (i := i_Al_get) (pc := 5) m_Ob_checkIndex (ztb_of k_321 rfl) (ztb_of k_322 rfl) d_Al_get_5 (Nat.le_of_ble_eq_true rfl) (Nat.le_of_ble_eq_true rfl) (Nat.le_of_ble_eq_true rfl) (Nat.le_of_ble_eq_true rfl) (c_Ob_checkIndex hA hB ?_)
  refine zo_pop (i := i_Al_get) (pc := 8) d_Al_get_8 rfl ?_
  refine zo_aload_n (i := i_Al_get) (pc := 9) d_Al_get_9 rfl rfl ?_
  refine zo_iload_n (i := i_Al_get) (pc := 10) d_Al_get_10 rfl ?_
  refine zc_V1 (i := i_Al_get) (pc := 11) 0 rfl m_Al_elementData (ztb_of k_327 rfl) (ztb_of k_328 rfl) (ztb_of k_329 rfl) d_Al_get_11 (Nat.le_of_ble_eq_true rfl) (Nat.le_of_ble_eq_true rfl) (Nat.le_of_ble_eq_true rfl) (Nat.le_of_ble_eq_true rfl) he (c_Al_elementData hd he hin hf ?_)
  refine zo_areturn (i := i_Al_get) (pc := 14) hq d_Al_get_14 rfl (.inl ⟨_, rfl⟩) (.inr ⟨_, rfl⟩) (Nat.le_of_ble_eq_true rfl) (Nat.le_of_ble_eq_true rfl) ?_
  exact k
theorem c_Ac_init {g : zG} {ws : va_W} {post : Option Value → va_W → Prop} {l : Nat} (k : post none ws) : zC g i_Ac_init [.ref l] ws post := by
  refine zC.intro (by decide +kernel) rfl (Nat.le_of_ble_eq_true rfl) fun x hq => ?_
  refine zo_aload_n (i := i_Ac_init) (pc := 0) d_Ac_init_0 rfl rfl ?_
  refine zo_objInit (i := i_Ac_init) (pc := 1) (ztb_of k_82 rfl) (ztb_of k_32 rfl) (ztb_of k_33 rfl) d_Ac_init_1 (Nat.le_of_ble_eq_true rfl) (Nat.le_of_ble_eq_true rfl) ?_
  refine zo_return (i := i_Ac_init) (pc := 4) hq d_Ac_init_4 rfl (Nat.le_of_ble_eq_true rfl) (Nat.le_of_ble_eq_true rfl) ?_
  exact k
theorem c_Ab_init {g : zG} {ws : va_W} {post : Option Value → va_W → Prop} {l : Nat} {R : va_W} {v n m : Value} (hs : zHas ws ((l, .inr (0, [v, n, m])) :: R)) (k : ∀ w, zHas w ((l, .inr (0, [v, n, .int 0])) :: R) → post none w) : zC g i_Ab_init [.ref l] ws post := by
  refine zC.intro (by decide +kernel) rfl (Nat.le_of_ble_eq_true rfl) fun x hq => ?_
  refine zo_aload_n (i := i_Ab_init) (pc := 0) d_Ab_init_0 rfl rfl ?_
  refine zc_I0 (i := i_Ab_init) (pc := 1) m_Ac_init rfl rfl (ztb_of k_79 rfl) (ztb_of k_80 rfl) d_Ab_init_1 (Nat.le_of_ble_eq_true rfl) (Nat.le_of_ble_eq_true rfl) (Nat.le_of_ble_eq_true rfl) (Nat.le_of_ble_eq_true rfl) (c_Ac_init ?_)
  refine zo_aload_n (i := i_Ab_init) (pc := 4) d_Ab_init_4 rfl rfl ?_
  refine zo_iconst (i := i_Ab_init) (pc := 5) (v := 0) d_Ab_init_5 (by decide) ?_
  refine zh_put (i := i_Ab_init) (pc := 6) 0 2 rfl zok_Al (Nat.le_of_ble_eq_true rfl) (ztb_of k_87 rfl) rfl d_Ab_init_6 (fun _ _ _ h => h) (t_Al_ok 2 (Nat.le_of_ble_eq_true rfl)) rfl rfl hs 0 rfl (Nat.le_of_ble_eq_true rfl) fun ws hs => ?_
  refine zo_return (i := i_Ab_init) (pc := 9) hq d_Ab_init_9 rfl (Nat.le_of_ble_eq_true rfl) (Nat.le_of_ble_eq_true rfl) ?_
  exact k ws hs
theorem c_Al_init {g : zG} {ws : va_W} {post : Option Value → va_W → Prop} {l : Nat} {R : va_W} {v n m : Value} (hs : zHas ws ((l, .inr (0, [v, n, m])) :: R)) (k : ∀ w, zHas w ((l, .inr (0, [.ref g.2.2.1.2.2.2.2, n, .int 0])) :: R) → post none w) : zC g i_Al_init [.ref l] ws post := by
  refine zC.intro (by decide +kernel) rfl (Nat.le_of_ble_eq_true rfl) fun x hq => ?_
  refine zo_aload_n (i := i_Al_init) (pc := 0) d_Al_init_0 rfl rfl ?_
  refine zc_I0 (i := i_Al_init) (pc := 1) m_Ab_init rfl rfl (ztb_of k_76 rfl) (ztb_of k_77 rfl) d_Al_init_1 (Nat.le_of_ble_eq_true rfl) (Nat.le_of_ble_eq_true rfl) (Nat.le_of_ble_eq_true rfl) (Nat.le_of_ble_eq_true rfl) (c_Ab_init hs fun ws hs => ?_)
  refine zo_aload_n (i := i_Al_init) (pc := 4) d_Al_init_4 rfl rfl ?_
  refine zo_getE (i := i_Al_init) (pc := 5) d_Al_init_5 (ztb_of k_83 rfl) ?_
  refine zh_put (i := i_Al_init) (pc := 8) 0 0 rfl zok_Al (Nat.le_of_ble_eq_true rfl) (ztb_of k_85 rfl) rfl d_Al_init_8 (fun _ _ _ h => h) (t_Al_ok 0 (Nat.le_of_ble_eq_true rfl)) rfl rfl hs 0 rfl (Nat.le_of_ble_eq_true rfl) fun ws hs => ?_
  refine zo_return (i := i_Al_init) (pc := 11) hq d_Al_init_11 rfl (Nat.le_of_ble_eq_true rfl) (Nat.le_of_ble_eq_true rfl) ?_
  exact k ws hs
theorem c_Al_grow_2 {g : zG} {ws : va_W} {post : Option Value → va_W → Prop} {l : Nat} {j : Int32} {R : va_W} {n m : Value} (hs : zHas ws ((l, .inr (0, [.ref g.2.2.1.2.2.2.2, n, m])) :: R)) (hj : ¬ 10 < j) (k : ∀ d w, zHas w ((d, .inl (g.2.2.1.2.1, 10, .inr (.inr (.inr (.inr (fun _ => none)))))) :: (l, .inr (0, [.ref d, n, m])) :: R) → post (some (.ref d)) w) : zC g i_Al_grow_2 [.ref l, .int j] ws post := by
  refine zC.intro (by decide +kernel) rfl (Nat.le_of_ble_eq_true rfl) fun x hq => ?_
  refine zo_aload_n (i := i_Al_grow_2) (pc := 0) d_Al_grow_2_0 rfl rfl ?_
  refine zo_get (i := i_Al_grow_2) (pc := 1) 0 0 rfl zok_Al (Nat.le_of_ble_eq_true rfl) (ztb_of k_85 rfl) d_Al_grow_2_1 (fun _ _ _ h => h) (hs.get (t := 0) rfl) rfl ?_
  refine zo_alenE (i := i_Al_grow_2) (pc := 4) d_Al_grow_2_4 ?_
  refine zo_istore_n (i := i_Al_grow_2) (pc := 5) d_Al_grow_2_5 (Nat.le_of_ble_eq_true rfl) ?_
  refine zo_iload_n (i := i_Al_grow_2) (pc := 6) d_Al_grow_2_6 rfl ?_
  refine zo_if_gt (i := i_Al_grow_2) (pc := 7) (tgt := 20) d_Al_grow_2_7 (by decide) (fun h7 => False.elim (by first | exact absurd h7 (by decide) | exact absurd (by decide) h7)) (fun h7 => ?_)
  refine zo_aload_n (i := i_Al_grow_2) (pc := 10) d_Al_grow_2_10 rfl rfl ?_
  refine zo_get (i := i_Al_grow_2) (pc := 11) 0 0 rfl zok_Al (Nat.le_of_ble_eq_true rfl) (ztb_of k_85 rfl) d_Al_grow_2_11 (fun _ _ _ h => h) (hs.get (t := 0) rfl) rfl ?_
  refine zo_getE (i := i_Al_grow_2) (pc := 14) d_Al_grow_2_14 (ztb_of k_83 rfl) ?_
  refine zo_acmp_eq (i := i_Al_grow_2) (pc := 17) (tgt := 45) d_Al_grow_2_17 (by decide) (fun h17 => ?_) (fun h17 => False.elim (by first | exact absurd h17 (rfl) | exact absurd (rfl) h17))
  refine zo_aload_n (i := i_Al_grow_2) (pc := 45) d_Al_grow_2_45 rfl rfl ?_
  refine zo_bipush (i := i_Al_grow_2) (pc := 46) (v := 10) d_Al_grow_2_46 (by decide) ?_
  refine zo_iload_n (i := i_Al_grow_2) (pc := 48) d_Al_grow_2_48 rfl ?_
  refine zc_S2 (i := i_Al_grow_2) (pc := 49) m_Ma_max (ztb_of k_250 rfl) (ztb_of k_151 rfl) d_Al_grow_2_49 (Nat.le_of_ble_eq_true rfl) (Nat.le_of_ble_eq_true rfl) (Nat.le_of_ble_eq_true rfl) (Nat.le_of_ble_eq_true rfl) (c_Ma_max ?_)
  refine zh_newO (i := i_Al_grow_2) (pc := 52) (m := 10) d_Al_grow_2_52 (ztb_of k_251 rfl) (ztb_of k_244 rfl) (by rw [if_neg hj]; decide) (by rw [if_neg hj]; decide) (Nat.le_of_ble_eq_true rfl) (Nat.le_of_ble_eq_true rfl) (Nat.le_of_ble_eq_true rfl) hs fun a52 ws hs => ?_
  refine zo_dup_x1 (i := i_Al_grow_2) (pc := 55) d_Al_grow_2_55 rfl rfl ?_
  refine zh_put (i := i_Al_grow_2) (pc := 56) 0 0 rfl zok_Al (Nat.le_of_ble_eq_true rfl) (ztb_of k_85 rfl) rfl d_Al_grow_2_56 (fun _ _ _ h => h) (t_Al_ok 0 (Nat.le_of_ble_eq_true rfl)) rfl rfl hs 1 rfl (Nat.le_of_ble_eq_true rfl) fun ws hs => ?_
  refine zo_areturn (i := i_Al_grow_2) (pc := 59) hq d_Al_grow_2_59 rfl (.inr ⟨_, rfl⟩) (.inr ⟨_, rfl⟩) (Nat.le_of_ble_eq_true rfl) (Nat.le_of_ble_eq_true rfl) ?_
  exact k _ ws hs
theorem c_Al_grow {g : zG} {ws : va_W} {post : Option Value → va_W → Prop} {l : Nat} {R : va_W} {n : Int32} {m : Value} (hs : zHas ws ((l, .inr (0, [.ref g.2.2.1.2.2.2.2, .int n, m])) :: R)) (hj : ¬ 10 < n + 1) (k : ∀ d w, zHas w ((d, .inl (g.2.2.1.2.1, 10, .inr (.inr (.inr (.inr (fun _ => none)))))) :: (l, .inr (0, [.ref d, .int n, m])) :: R) → post (some (.ref d)) w) : zC g i_Al_grow [.ref l] ws post := by
  refine zC.intro (by decide +kernel) rfl (Nat.le_of_ble_eq_true rfl) fun x hq => ?_
  refine zo_aload_n (i := i_Al_grow) (pc := 0) d_Al_grow_0 rfl rfl ?_
  refine zo_aload_n (i := i_Al_grow) (pc := 1) d_Al_grow_1 rfl rfl ?_
  refine zo_get (i := i_Al_grow) (pc := 2) 0 1 rfl zok_Al (Nat.le_of_ble_eq_true rfl) (ztb_of k_86 rfl) d_Al_grow_2 (fun _ _ _ h => h) (hs.get (t := 0) rfl) rfl ?_
  refine zo_iconst (i := i_Al_grow) (pc := 5) (v := 1) d_Al_grow_5 (by decide) ?_
  refine zo_iadd (i := i_Al_grow) (pc := 6) d_Al_grow_6 ?_
  refine zc_V1 (i := i_Al_grow) (pc := 7) 0 rfl m_Al_grow_2 (ztb_of k_207 rfl) (ztb_of k_209 rfl) s_Al_grow_2 d_Al_grow_7 (Nat.le_of_ble_eq_true rfl) (Nat.le_of_ble_eq_true rfl) (Nat.le_of_ble_eq_true rfl) (Nat.le_of_ble_eq_true rfl) (hs.get (t := 0) rfl) (c_Al_grow_2 hs hj ?_)
  intro d ws hs
  refine zo_areturn (i := i_Al_grow) (pc := 10) hq d_Al_grow_10 rfl (.inr ⟨_, rfl⟩) (.inr ⟨_, rfl⟩) (Nat.le_of_ble_eq_true rfl) (Nat.le_of_ble_eq_true rfl) ?_
  exact k _ ws hs
theorem c_Al_add_2r {g : zG} {ws : va_W} {post : Option Value → va_W → Prop} {l d : Nat} {R : va_W} {v m : Value} {n : Int32} {f : Nat → Option Nat} (c : Nat) {q : vw_C} (hc : zcl[c]? = some q) (hw : Cond.castable q.1 "java/lang/Object" ∈ ztb) {b : Nat} {fs : List Value} (hb : (b, .inr (c, fs)) ∈ R) (hs : zHas ws ((l, .inr (0, [v, .int n, m])) :: (d, .inl (g.2.2.1.2.1, 10, .inr (.inr (.inr (.inr (f)))))) :: R)) (hn : vp_in n 10) (hne : ¬ n = Int32.ofNat 10) (k : ∀ w, zHas w ((l, .inr (0, [v, .int (n + 1), m])) :: (d, .inl (g.2.2.1.2.1, 10, .inr (.inr (.inr (.inr (va_up f n.toNatClampNeg (some b))))))) :: R) → post none w) : zC g i_Al_add_2 [.ref l, .ref b, .ref d, .int n] ws post := by
  refine zC.intro (by decide +kernel) rfl (Nat.le_of_ble_eq_true rfl) fun x hq => ?_
  refine zo_iload_n (i := i_Al_add_2) (pc := 0) d_Al_add_2_0 rfl ?_
  refine zo_aload_n (i := i_Al_add_2) (pc := 1) d_Al_add_2_1 rfl rfl ?_
  refine zo_alen (i := i_Al_add_2) (pc := 2) 1 d_Al_add_2_2 (hs.get (t := 1) rfl) rfl ?_
  refine zo_icmp_ne (i := i_Al_add_2) (pc := 3) (tgt := 11) d_Al_add_2_3 (by decide) (fun h3 => ?_) (fun h3 => False.elim (by first | exact absurd h3 (hne) | exact absurd (hne) h3))
  refine zo_aload_n (i := i_Al_add_2) (pc := 11) d_Al_add_2_11 rfl rfl ?_
  refine zo_iload_n (i := i_Al_add_2) (pc := 12) d_Al_add_2_12 rfl ?_
  refine zo_aload_n (i := i_Al_add_2) (pc := 13) d_Al_add_2_13 rfl rfl ?_
  refine zh_aastore (i := i_Al_add_2) (pc := 14) c hc hw d_Al_add_2_14 hs (hs.mem (List.mem_cons_of_mem _ (List.mem_cons_of_mem _ hb))) 1 rfl hn fun ws hs => ?_
  refine zo_aload_n (i := i_Al_add_2) (pc := 15) d_Al_add_2_15 rfl rfl ?_
  refine zo_iload_n (i := i_Al_add_2) (pc := 16) d_Al_add_2_16 rfl ?_
  refine zo_iconst (i := i_Al_add_2) (pc := 17) (v := 1) d_Al_add_2_17 (by decide) ?_
  refine zo_iadd (i := i_Al_add_2) (pc := 18) d_Al_add_2_18 ?_
  refine zh_put (i := i_Al_add_2) (pc := 19) 0 1 rfl zok_Al (Nat.le_of_ble_eq_true rfl) (ztb_of k_86 rfl) rfl d_Al_add_2_19 (fun _ _ _ h => h) (t_Al_ok 1 (Nat.le_of_ble_eq_true rfl)) rfl rfl hs 0 rfl (Nat.le_of_ble_eq_true rfl) fun ws hs => ?_
  refine zo_return (i := i_Al_add_2) (pc := 22) hq d_Al_add_2_22 rfl (Nat.le_of_ble_eq_true rfl) (Nat.le_of_ble_eq_true rfl) ?_
  exact k ws hs
theorem c_Al_add_2g {g : zG} {ws : va_W} {post : Option Value → va_W → Prop} {l : Nat} {R : va_W} {m : Value} (c : Nat) {q : vw_C} (hc : zcl[c]? = some q) (hw : Cond.castable q.1 "java/lang/Object" ∈ ztb) {b : Nat} {fs : List Value} (hb : (b, .inr (c, fs)) ∈ R) (hs : zHas ws ((l, .inr (0, [.ref g.2.2.1.2.2.2.2, .int 0, m])) :: R)) (k : ∀ d w, zHas w ((d, .inl (g.2.2.1.2.1, 10, .inr (.inr (.inr (.inr (va_up (fun _ => none) 0 (some b))))))) :: (l, .inr (0, [.ref d, .int 1, m])) :: R) → post none w) : zC g i_Al_add_2 [.ref l, .ref b, .ref g.2.2.1.2.2.2.2, .int 0] ws post := by
  refine zC.intro (by decide +kernel) rfl (Nat.le_of_ble_eq_true rfl) fun x hq => ?_
  refine zo_iload_n (i := i_Al_add_2) (pc := 0) d_Al_add_2_0 rfl ?_
  refine zo_aload_n (i := i_Al_add_2) (pc := 1) d_Al_add_2_1 rfl rfl ?_
  refine zo_alenE (i := i_Al_add_2) (pc := 2) d_Al_add_2_2 ?_
  refine zo_icmp_ne (i := i_Al_add_2) (pc := 3) (tgt := 11) d_Al_add_2_3 (by decide) (fun h3 => False.elim (by first | exact absurd h3 (rfl) | exact absurd (rfl) h3)) (fun h3 => ?_)
  refine zo_aload_n (i := i_Al_add_2) (pc := 6) d_Al_add_2_6 rfl rfl ?_
  refine zc_V0 (i := i_Al_add_2) (pc := 7) 0 rfl m_Al_grow (ztb_of k_203 rfl) (ztb_of k_205 rfl) s_Al_grow d_Al_add_2_7 (Nat.le_of_ble_eq_true rfl) (Nat.le_of_ble_eq_true rfl) (Nat.le_of_ble_eq_true rfl) (Nat.le_of_ble_eq_true rfl) (hs.get (t := 0) rfl) (c_Al_grow hs (by decide) fun d ws hs => ?_)
  refine zo_astore_n (i := i_Al_add_2) (pc := 10) d_Al_add_2_10 rfl (Nat.le_of_ble_eq_true rfl) ?_
  refine zo_aload_n (i := i_Al_add_2) (pc := 11) d_Al_add_2_11 rfl rfl ?_
  refine zo_iload_n (i := i_Al_add_2) (pc := 12) d_Al_add_2_12 rfl ?_
  refine zo_aload_n (i := i_Al_add_2) (pc := 13) d_Al_add_2_13 rfl rfl ?_
  refine zh_aastore (i := i_Al_add_2) (pc := 14) c hc hw d_Al_add_2_14 hs (hs.mem (List.mem_cons_of_mem _ (List.mem_cons_of_mem _ hb))) 0 rfl (by unfold vp_in; decide) fun ws hs => ?_
  refine zo_aload_n (i := i_Al_add_2) (pc := 15) d_Al_add_2_15 rfl rfl ?_
  refine zo_iload_n (i := i_Al_add_2) (pc := 16) d_Al_add_2_16 rfl ?_
  refine zo_iconst (i := i_Al_add_2) (pc := 17) (v := 1) d_Al_add_2_17 (by decide) ?_
  refine zo_iadd (i := i_Al_add_2) (pc := 18) d_Al_add_2_18 ?_
  refine zh_put (i := i_Al_add_2) (pc := 19) 0 1 rfl zok_Al (Nat.le_of_ble_eq_true rfl) (ztb_of k_86 rfl) rfl d_Al_add_2_19 (fun _ _ _ h => h) (t_Al_ok 1 (Nat.le_of_ble_eq_true rfl)) rfl rfl hs 1 rfl (Nat.le_of_ble_eq_true rfl) fun ws hs => ?_
  refine zo_return (i := i_Al_add_2) (pc := 22) hq d_Al_add_2_22 rfl (Nat.le_of_ble_eq_true rfl) (Nat.le_of_ble_eq_true rfl) ?_
  exact k d ws hs
theorem c_Al_add_r {g : zG} {ws : va_W} {post : Option Value → va_W → Prop} {l d : Nat} {R : va_W} {m : Int32} {n : Int32} {f : Nat → Option Nat} (c : Nat) {q : vw_C} (hc : zcl[c]? = some q) (hw : Cond.castable q.1 "java/lang/Object" ∈ ztb) {b : Nat} {fs : List Value} (hb : (b, .inr (c, fs)) ∈ R) (hs : zHas ws ((l, .inr (0, [.ref d, .int n, .int m])) :: (d, .inl (g.2.2.1.2.1, 10, .inr (.inr (.inr (.inr (f)))))) :: R)) (hn : vp_in n 10) (hne : ¬ n = Int32.ofNat 10) (k : ∀ w, zHas w ((l, .inr (0, [.ref d, .int (n + 1), .int (m + 1)])) :: (d, .inl (g.2.2.1.2.1, 10, .inr (.inr (.inr (.inr (va_up f n.toNatClampNeg (some b))))))) :: R) → post (some (.int 1)) w) : zC g i_Al_add [.ref l, .ref b] ws post := by
  refine zC.intro (by decide +kernel) rfl (Nat.le_of_ble_eq_true rfl) fun x hq => ?_
  refine zo_aload_n (i := i_Al_add) (pc := 0) d_Al_add_0 rfl rfl ?_
  refine zo_dup (i := i_Al_add) (pc := 1) d_Al_add_1 rfl ?_
  refine zo_get (i := i_Al_add) (pc := 2) 0 2 rfl zok_Al (Nat.le_of_ble_eq_true rfl) (ztb_of k_88 rfl) d_Al_add_2 (fun U hT z h => u_same (hT.hts #[] _ (ztb_of k_89 rfl)) z h) (hs.get (t := 0) rfl) rfl ?_
  refine zo_iconst (i := i_Al_add) (pc := 5) (v := 1) d_Al_add_5 (by decide) ?_
  refine zo_iadd (i := i_Al_add) (pc := 6) d_Al_add_6 ?_
  refine zh_put (i := i_Al_add) (pc := 7) 0 2 rfl zok_Al (Nat.le_of_ble_eq_true rfl) (ztb_of k_88 rfl) rfl d_Al_add_7 (fun U hT z h => u_same (hT.hts #[] _ (ztb_of k_89 rfl)) z h) (t_Al_ok 2 (Nat.le_of_ble_eq_true rfl)) rfl rfl hs 0 rfl (Nat.le_of_ble_eq_true rfl) fun ws hs => ?_
  refine zo_aload_n (i := i_Al_add) (pc := 10) d_Al_add_10 rfl rfl ?_
  refine zo_aload_n (i := i_Al_add) (pc := 11) d_Al_add_11 rfl rfl ?_
  refine zo_aload_n (i := i_Al_add) (pc := 12) d_Al_add_12 rfl rfl ?_
  refine zo_get (i := i_Al_add) (pc := 13) 0 0 rfl zok_Al (Nat.le_of_ble_eq_true rfl) (ztb_of k_85 rfl) d_Al_add_13 (fun _ _ _ h => h) (hs.get (t := 0) rfl) rfl ?_
  refine zo_aload_n (i := i_Al_add) (pc := 16) d_Al_add_16 rfl rfl ?_
  refine zo_get (i := i_Al_add) (pc := 17) 0 1 rfl zok_Al (Nat.le_of_ble_eq_true rfl) (ztb_of k_86 rfl) d_Al_add_17 (fun _ _ _ h => h) (hs.get (t := 0) rfl) rfl ?_
  refine zc_V3 (i := i_Al_add) (pc := 20) 0 rfl m_Al_add_2 (ztb_of k_199 rfl) (ztb_of k_201 rfl) s_Al_add_2 d_Al_add_20 (Nat.le_of_ble_eq_true rfl) (Nat.le_of_ble_eq_true rfl) (Nat.le_of_ble_eq_true rfl) (Nat.le_of_ble_eq_true rfl) (hs.get (t := 0) rfl) (c_Al_add_2r c hc hw hb hs hn hne fun ws hs => ?_)
  refine zo_iconst (i := i_Al_add) (pc := 23) (v := 1) d_Al_add_23 (by decide) ?_
  refine zo_zreturn (i := i_Al_add) (pc := 24) hq d_Al_add_24 rfl rfl (Nat.le_of_ble_eq_true rfl) (Nat.le_of_ble_eq_true rfl) ?_
  exact k ws hs
theorem c_Al_add_g {g : zG} {ws : va_W} {post : Option Value → va_W → Prop} {l : Nat} {R : va_W} {m : Int32} (c : Nat) {q : vw_C} (hc : zcl[c]? = some q) (hw : Cond.castable q.1 "java/lang/Object" ∈ ztb) {b : Nat} {fs : List Value} (hb : (b, .inr (c, fs)) ∈ R) (hs : zHas ws ((l, .inr (0, [.ref g.2.2.1.2.2.2.2, .int 0, .int m])) :: R)) (k : ∀ d w, zHas w ((d, .inl (g.2.2.1.2.1, 10, .inr (.inr (.inr (.inr (va_up (fun _ => none) 0 (some b))))))) :: (l, .inr (0, [.ref d, .int 1, .int (m + 1)])) :: R) → post (some (.int 1)) w) : zC g i_Al_add [.ref l, .ref b] ws post := by
  refine zC.intro (by decide +kernel) rfl (Nat.le_of_ble_eq_true rfl) fun x hq => ?_
  refine zo_aload_n (i := i_Al_add) (pc := 0) d_Al_add_0 rfl rfl ?_
  refine zo_dup (i := i_Al_add) (pc := 1) d_Al_add_1 rfl ?_
  refine zo_get (i := i_Al_add) (pc := 2) 0 2 rfl zok_Al (Nat.le_of_ble_eq_true rfl) (ztb_of k_88 rfl) d_Al_add_2 (fun U hT z h => u_same (hT.hts #[] _ (ztb_of k_89 rfl)) z h) (hs.get (t := 0) rfl) rfl ?_
  refine zo_iconst (i := i_Al_add) (pc := 5) (v := 1) d_Al_add_5 (by decide) ?_
  refine zo_iadd (i := i_Al_add) (pc := 6) d_Al_add_6 ?_
  refine zh_put (i := i_Al_add) (pc := 7) 0 2 rfl zok_Al (Nat.le_of_ble_eq_true rfl) (ztb_of k_88 rfl) rfl d_Al_add_7 (fun U hT z h => u_same (hT.hts #[] _ (ztb_of k_89 rfl)) z h) (t_Al_ok 2 (Nat.le_of_ble_eq_true rfl)) rfl rfl hs 0 rfl (Nat.le_of_ble_eq_true rfl) fun ws hs => ?_
  refine zo_aload_n (i := i_Al_add) (pc := 10) d_Al_add_10 rfl rfl ?_
  refine zo_aload_n (i := i_Al_add) (pc := 11) d_Al_add_11 rfl rfl ?_
  refine zo_aload_n (i := i_Al_add) (pc := 12) d_Al_add_12 rfl rfl ?_
  refine zo_get (i := i_Al_add) (pc := 13) 0 0 rfl zok_Al (Nat.le_of_ble_eq_true rfl) (ztb_of k_85 rfl) d_Al_add_13 (fun _ _ _ h => h) (hs.get (t := 0) rfl) rfl ?_
  refine zo_aload_n (i := i_Al_add) (pc := 16) d_Al_add_16 rfl rfl ?_
  refine zo_get (i := i_Al_add) (pc := 17) 0 1 rfl zok_Al (Nat.le_of_ble_eq_true rfl) (ztb_of k_86 rfl) d_Al_add_17 (fun _ _ _ h => h) (hs.get (t := 0) rfl) rfl ?_
  refine zc_V3 (i := i_Al_add) (pc := 20) 0 rfl m_Al_add_2 (ztb_of k_199 rfl) (ztb_of k_201 rfl) s_Al_add_2 d_Al_add_20 (Nat.le_of_ble_eq_true rfl) (Nat.le_of_ble_eq_true rfl) (Nat.le_of_ble_eq_true rfl) (Nat.le_of_ble_eq_true rfl) (hs.get (t := 0) rfl) (c_Al_add_2g c hc hw hb hs fun d ws hs => ?_)
  refine zo_iconst (i := i_Al_add) (pc := 23) (v := 1) d_Al_add_23 (by decide) ?_
  refine zo_zreturn (i := i_Al_add) (pc := 24) hq d_Al_add_24 rfl rfl (Nat.le_of_ble_eq_true rfl) (Nat.le_of_ble_eq_true rfl) ?_
  exact k d ws hs
