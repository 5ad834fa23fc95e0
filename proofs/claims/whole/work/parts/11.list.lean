/-! ArrayList by its contents (walks by a program, gen11.py). -/
section ZList
/-- the places of a row of ten that holds xs -/
def zrefs (xs : List Nat) : Nat → Option Nat := fun j => xs[j]?
/-- an ArrayList at l: its array at d (none: the shared empty one), its count of changes, its contents -/
def alW (g : zG) (l : Nat) (d : Option Nat) (m : Int32) (xs : List Nat) : va_W :=
  (l, .inr (0, [.ref (d.getD g.2.2.1.2.2.2.2), .int (nI xs.length), .int m])) :: (match d with | none => [] | some d => [(d, .inl (g.2.2.1.2.1, 10, .inr (.inr (.inr (.inr (zrefs xs))))))])
theorem zrefs_push (xs : List Nat) (b : Nat) : va_up (zrefs xs) xs.length (some b) = zrefs (xs ++ [b]) := by
  funext j
  by_cases h : j = xs.length
  · subst h
    rw [va_up_self]
    simp [zrefs]
  · rw [va_up_ne _ _ h]
    show xs[j]? = (xs ++ [b])[j]?
    by_cases hl : j < xs.length
    · rw [List.getElem?_append_left hl]
    · rw [List.getElem?_eq_none (by omega), List.getElem?_eq_none (by rw [List.length_append, List.length_singleton]; omega)]
theorem zrefs_erase (xs : List Nat) (i k : Nat) (hk : xs.length = k + 1) (hi : i < k) : va_up (va_cpy (zrefs xs) (zrefs xs) (i + 1) i (k - i)) k none = zrefs (xs.eraseIdx i) := by
  funext j
  show _ = (xs.eraseIdx i)[j]?
  rw [List.getElem?_eraseIdx]
  by_cases h : j = k
  · subst h
    rw [va_up_self, if_neg (by omega), List.getElem?_eq_none (by omega)]
  · rw [va_up_ne _ _ h]
    show (if i ≤ j ∧ j < i + (k - i) then xs[i + 1 + (j - i)]? else xs[j]?) = _
    by_cases h1 : j < i
    · rw [if_neg (by omega), if_pos h1]
    · rw [if_neg h1]
      by_cases h2 : j < k
      · rw [if_pos (by omega), show i + 1 + (j - i) = j + 1 by omega]
      · rw [if_neg (by omega), List.getElem?_eq_none (by omega), List.getElem?_eq_none (by omega)]
theorem zrefs_last (xs : List Nat) (k : Nat) (hk : xs.length = k + 1) : va_up (zrefs xs) k none = zrefs (xs.eraseIdx k) := by
  funext j
  show _ = (xs.eraseIdx k)[j]?
  rw [List.getElem?_eraseIdx]
  by_cases h : j = k
  · subst h
    rw [va_up_self, if_neg (by omega), List.getElem?_eq_none (by omega)]
  · rw [va_up_ne _ _ h]
    show xs[j]? = _
    by_cases h1 : j < k
    · rw [if_pos h1]
    · rw [if_neg h1, List.getElem?_eq_none (by omega), List.getElem?_eq_none (by omega)]
theorem alW_head {g : zG} {ws R : va_W} {l : Nat} {d : Option Nat} {m : Int32} {xs : List Nat} (hs : zHas ws (alW g l d m xs ++ R)) : zget ws l = some (.inr (0, [.ref (d.getD g.2.2.1.2.2.2.2), .int (nI xs.length), .int m])) := hs.get (t := 0) rfl
theorem c_al_size {g : zG} {ws R : va_W} {post : Option Value → va_W → Prop} {l : Nat} {d : Option Nat} {m : Int32} {xs : List Nat} (hs : zHas ws (alW g l d m xs ++ R)) (k : post (some (.int (nI xs.length))) ws) : zC g i_Al_size [.ref l] ws post := c_Al_size (alW_head hs) k
theorem c_al_isEmpty {g : zG} {ws R : va_W} {post : Option Value → va_W → Prop} {l : Nat} {d : Option Nat} {m : Int32} {xs : List Nat} (hs : zHas ws (alW g l d m xs ++ R)) (k : post (some (.int (if nI xs.length = 0 then 1 else 0))) ws) : zC g i_Al_isEmpty [.ref l] ws post := c_Al_isEmpty (alW_head hs) k
theorem c_al_get {g : zG} {ws R : va_W} {post : Option Value → va_W → Prop} {l : Nat} {d : Option Nat} {m : Int32} {xs : List Nat} {j b : Nat} (hs : zHas ws (alW g l d m xs ++ R)) (hx : d = none → xs = []) (hl : xs.length ≤ 10) (hj : xs[j]? = some b) (k : post (some (.ref b)) ws) : zC g i_Al_get [.ref l, .int (nI j)] ws post := by
  have hlt : j < xs.length := (List.getElem?_eq_some_iff.mp hj).1
  cases d with
  | none => rw [hx rfl] at hlt; exact absurd hlt (by simp)
  | some d =>
    have hj31 : j < 2 ^ 31 := by omega
    exact c_Al_get (hs.get (t := 1) rfl) (hs.get (t := 0) rfl) (nI_pos hj31) (nI_lt hlt (by omega)) (vp_in_nI (by omega) (by decide)) (by rw [nI_clamp hj31]; exact hj) k
theorem c_al_add {g : zG} {ws R : va_W} {post : Option Value → va_W → Prop} {l : Nat} {d : Option Nat} {m : Int32} {xs : List Nat} (c : Nat) {q : vw_C} (hc : zcl[c]? = some q) (hw : Cond.castable q.1 "java/lang/Object" ∈ ztb) {b : Nat} {fs : List Value} (hb : (b, .inr (c, fs)) ∈ R) (hs : zHas ws (alW g l d m xs ++ R)) (hx : d = none → xs = []) (hl : xs.length < 10)
    (k : ∀ d' m' w, zHas w (alW g l (some d') m' (xs ++ [b]) ++ R) → post (some (.int 1)) w) : zC g i_Al_add [.ref l, .ref b] ws post := by
  cases d with
  | none =>
    have hx := hx rfl
    subst hx
    refine c_Al_add_g c hc hw hb hs fun d w h => ?_
    refine k d (m + 1) w ?_
    have e : va_up (fun _ => none) 0 (some b) = zrefs ([] ++ [b]) := zrefs_push [] b
    rw [e] at h
    exact h.perm (List.Perm.swap _ _ _)
  | some d =>
    have h31 : xs.length < 2 ^ 31 := by omega
    refine c_Al_add_r c hc hw hb hs (vp_in_nI hl (by decide)) (fun e => ?_) fun w h => ?_
    · exact absurd ((nI_eq h31 (by decide)).mp e) (by omega)
    · refine k d (m + 1) w ?_
      rw [nI_clamp h31, zrefs_push, nI_1] at h
      have e : xs.length + 1 = (xs ++ [b]).length := by rw [List.length_append, List.length_singleton]
      rw [e] at h
      exact h
end ZList
theorem c_Al_fastRemove {g : zG} {ws : va_W} {post : Option Value → va_W → Prop} {l d : Nat} {R : va_W} {v : Value} {m : Int32} {xs : List Nat} (c : Nat) {q : vw_C} (hc : zcl[c]? = some q) (hw : Cond.castable q.1 "java/lang/Object" ∈ ztb) {j n : Nat} (hn : xs.length = n + 1) (h10 : n < 10) (hj : j ≤ n) (hel : ∀ b ∈ xs, ∃ fs, (b, .inr (c, fs)) ∈ R) (hs : zHas ws ((l, .inr (0, [v, .int (nI (n + 1)), .int m])) :: (d, .inl (g.2.2.1.2.1, 10, .inr (.inr (.inr (.inr (zrefs xs)))))) :: R)) (k : ∀ w, zHas w ((l, .inr (0, [v, .int (nI n), .int (m + 1)])) :: (d, .inl (g.2.2.1.2.1, 10, .inr (.inr (.inr (.inr (zrefs (xs.eraseIdx j))))))) :: R) → post none w) : zC g i_Al_fastRemove [.ref l, .ref d, .int (nI j)] ws post := by
  refine zC.intro (by decide +kernel) rfl (Nat.le_of_ble_eq_true rfl) fun x hq => ?_
  refine zo_aload_n (i := i_Al_fastRemove) (pc := 0) d_Al_fastRemove_0 rfl rfl ?_
  refine zo_dup (i := i_Al_fastRemove) (pc := 1) d_Al_fastRemove_1 rfl ?_
  refine zo_get (i := i_Al_fastRemove) (pc := 2) 0 2 rfl zok_Al (Nat.le_of_ble_eq_true rfl) (ztb_of k_88 rfl) d_Al_fastRemove_2 (fun U hT z h => u_same (hT.hts #[] _ (ztb_of k_89 rfl)) z h) (hs.get (t := 0) rfl) rfl ?_
  refine zo_iconst (i := i_Al_fastRemove) (pc := 5) (v := 1) d_Al_fastRemove_5 (by decide) ?_
  refine zo_iadd (i := i_Al_fastRemove) (pc := 6) d_Al_fastRemove_6 ?_
  refine zh_put (i := i_Al_fastRemove) (pc := 7) 0 2 rfl zok_Al (Nat.le_of_ble_eq_true rfl) (ztb_of k_88 rfl) rfl d_Al_fastRemove_7 (fun U hT z h => u_same (hT.hts #[] _ (ztb_of k_89 rfl)) z h) (t_Al_ok 2 (Nat.le_of_ble_eq_true rfl)) rfl rfl hs 0 rfl (Nat.le_of_ble_eq_true rfl) fun ws hs => ?_
  refine zo_aload_n (i := i_Al_fastRemove) (pc := 10) d_Al_fastRemove_10 rfl rfl ?_
  refine zo_get (i := i_Al_fastRemove) (pc := 11) 0 1 rfl zok_Al (Nat.le_of_ble_eq_true rfl) (ztb_of k_86 rfl) d_Al_fastRemove_11 (fun _ _ _ h => h) (hs.get (t := 0) rfl) rfl ?_
  refine zo_iconst (i := i_Al_fastRemove) (pc := 14) (v := 1) d_Al_fastRemove_14 (by decide) ?_
  refine zo_isub (i := i_Al_fastRemove) (pc := 15) d_Al_fastRemove_15 ?_
  rw [nI_pred]
  refine zo_dup (i := i_Al_fastRemove) (pc := 16) d_Al_fastRemove_16 rfl ?_
  refine zo_istore_n (i := i_Al_fastRemove) (pc := 17) d_Al_fastRemove_17 (Nat.le_of_ble_eq_true rfl) ?_
  refine zo_iload_n (i := i_Al_fastRemove) (pc := 18) d_Al_fastRemove_18 rfl ?_
  refine zo_icmp_le (i := i_Al_fastRemove) (pc := 19) (tgt := 34) d_Al_fastRemove_19 (by decide) (fun h19 => ?_) (fun h19 => ?_)
  · refine zo_aload_n (i := i_Al_fastRemove) (pc := 34) d_Al_fastRemove_34 rfl rfl ?_
    refine zo_aload_n (i := i_Al_fastRemove) (pc := 35) d_Al_fastRemove_35 rfl rfl ?_
    refine zo_iload_n (i := i_Al_fastRemove) (pc := 36) d_Al_fastRemove_36 rfl ?_
    refine zo_dup_x1 (i := i_Al_fastRemove) (pc := 37) d_Al_fastRemove_37 rfl rfl ?_
    refine zh_put (i := i_Al_fastRemove) (pc := 38) 0 1 rfl zok_Al (Nat.le_of_ble_eq_true rfl) (ztb_of k_86 rfl) rfl d_Al_fastRemove_38 (fun _ _ _ h => h) (t_Al_ok 1 (Nat.le_of_ble_eq_true rfl)) rfl rfl hs 0 rfl (Nat.le_of_ble_eq_true rfl) fun ws hs => ?_
    refine zo_null (i := i_Al_fastRemove) (pc := 41) d_Al_fastRemove_41 ?_
    refine zh_aastoreN (i := i_Al_fastRemove) (pc := 42) d_Al_fastRemove_42 hs 1 rfl (vp_in_nI (by omega) (by decide)) fun ws hs => ?_
    refine zo_return (i := i_Al_fastRemove) (pc := 43) hq d_Al_fastRemove_43 rfl (Nat.le_of_ble_eq_true rfl) (Nat.le_of_ble_eq_true rfl) ?_
    refine k ws ?_
    rw [nI_clamp (by omega)] at hs
    first
      | (have hjn : j = n := Nat.le_antisymm hj (Nat.not_lt.mp fun q => nI_ge q (by omega) h19)
         subst hjn
         rw [zrefs_last xs j hn] at hs
         exact hs)
      | (have hjn : j < n := Nat.not_le.mp fun q => h19 (nI_le q (by omega))
         have hs := hs.eq (b := (l, .inr (0, [v, .int (nI n), .int (m + 1)])) :: (d, .inl (g.2.2.1.2.1, 10, .inr (.inr (.inr (.inr (va_up (va_cpy (zrefs xs) (zrefs xs) (j + 1) j (n - j)) n none)))))) :: R) rfl
         rw [zrefs_erase xs j n hn hjn] at hs
         exact hs)
  · refine zo_aload_n (i := i_Al_fastRemove) (pc := 22) d_Al_fastRemove_22 rfl rfl ?_
    refine zo_iload_n (i := i_Al_fastRemove) (pc := 23) d_Al_fastRemove_23 rfl ?_
    refine zo_iconst (i := i_Al_fastRemove) (pc := 24) (v := 1) d_Al_fastRemove_24 (by decide) ?_
    refine zo_iadd (i := i_Al_fastRemove) (pc := 25) d_Al_fastRemove_25 ?_
    refine zo_aload_n (i := i_Al_fastRemove) (pc := 26) d_Al_fastRemove_26 rfl rfl ?_
    refine zo_iload_n (i := i_Al_fastRemove) (pc := 27) d_Al_fastRemove_27 rfl ?_
    refine zo_iload_n (i := i_Al_fastRemove) (pc := 28) d_Al_fastRemove_28 rfl ?_
    refine zo_iload_n (i := i_Al_fastRemove) (pc := 29) d_Al_fastRemove_29 rfl ?_
    refine zo_isub (i := i_Al_fastRemove) (pc := 30) d_Al_fastRemove_30 ?_
    rw [nI_1, pk_sub hj]
    refine zo_copy (i := i_Al_fastRemove) (pc := 31) c hc (ztb_of k_452 rfl) (ztb_of k_249 rfl) (ztb_of k_248 rfl) (ztb_of k_14 rfl) hw d_Al_fastRemove_31 (hs.get (t := 1) rfl) (nI_pos (by omega)) (nI_pos (by omega)) (nI_pos (by omega)) (by rw [nI_clamp (by omega), nI_clamp (by omega)]; omega) (by rw [nI_clamp (by omega), nI_clamp (by omega)]; omega) (fun t ht b hb => ?_) (Nat.le_of_ble_eq_true rfl) (Nat.le_of_ble_eq_true rfl) ?_
    · rw [nI_clamp (by omega)] at hb
      obtain ⟨fs, hfs⟩ := hel b (List.mem_of_getElem? hb)
      exact ⟨fs, hs.mem (List.mem_cons_of_mem _ (List.mem_cons_of_mem _ hfs))⟩
    rw [nI_clamp (by omega), nI_clamp (by omega), nI_clamp (by omega)]
    generalize hwe : zset ws d _ = ws'
    replace hs := hs.put (t := 1) (e := .inl (g.2.2.1.2.1, 10, .inr (.inr (.inr (.inr (va_cpy (zrefs xs) (zrefs xs) (j + 1) j (n - j))))))) rfl
    rw [hwe] at hs
    clear hwe
    refine zo_aload_n (i := i_Al_fastRemove) (pc := 34) d_Al_fastRemove_34 rfl rfl ?_
    refine zo_aload_n (i := i_Al_fastRemove) (pc := 35) d_Al_fastRemove_35 rfl rfl ?_
    refine zo_iload_n (i := i_Al_fastRemove) (pc := 36) d_Al_fastRemove_36 rfl ?_
    refine zo_dup_x1 (i := i_Al_fastRemove) (pc := 37) d_Al_fastRemove_37 rfl rfl ?_
    refine zh_put (i := i_Al_fastRemove) (pc := 38) 0 1 rfl zok_Al (Nat.le_of_ble_eq_true rfl) (ztb_of k_86 rfl) rfl d_Al_fastRemove_38 (fun _ _ _ h => h) (t_Al_ok 1 (Nat.le_of_ble_eq_true rfl)) rfl rfl hs 0 rfl (Nat.le_of_ble_eq_true rfl) fun ws hs => ?_
    refine zo_null (i := i_Al_fastRemove) (pc := 41) d_Al_fastRemove_41 ?_
    refine zh_aastoreN (i := i_Al_fastRemove) (pc := 42) d_Al_fastRemove_42 hs 1 rfl (vp_in_nI (by omega) (by decide)) fun ws hs => ?_
    refine zo_return (i := i_Al_fastRemove) (pc := 43) hq d_Al_fastRemove_43 rfl (Nat.le_of_ble_eq_true rfl) (Nat.le_of_ble_eq_true rfl) ?_
    refine k ws ?_
    rw [nI_clamp (by omega)] at hs
    first
      | (have hjn : j = n := Nat.le_antisymm hj (Nat.not_lt.mp fun q => nI_ge q (by omega) h19)
         subst hjn
         rw [zrefs_last xs j hn] at hs
         exact hs)
      | (have hjn : j < n := Nat.not_le.mp fun q => h19 (nI_le q (by omega))
         have hs := hs.eq (b := (l, .inr (0, [v, .int (nI n), .int (m + 1)])) :: (d, .inl (g.2.2.1.2.1, 10, .inr (.inr (.inr (.inr (va_up (va_cpy (zrefs xs) (zrefs xs) (j + 1) j (n - j)) n none)))))) :: R) rfl
         rw [zrefs_erase xs j n hn hjn] at hs
         exact hs)
theorem c_al_remove {g : zG} {ws : va_W} {post : Option Value → va_W → Prop} {l : Nat} {d : Option Nat} {R : va_W} {m : Int32} {xs : List Nat} (c : Nat) {q : vw_C} (hc : zcl[c]? = some q) (hw : Cond.castable q.1 "java/lang/Object" ∈ ztb) {j b : Nat} (hx : d = none → xs = []) (hl : xs.length ≤ 10) (hj : xs[j]? = some b) (hel : ∀ b ∈ xs, ∃ fs, (b, .inr (c, fs)) ∈ R) (hs : zHas ws (alW g l d m xs ++ R)) (k : ∀ m' w, zHas w (alW g l d m' (xs.eraseIdx j) ++ R) → post (some (.ref b)) w) : zC g i_Al_remove [.ref l, .int (nI j)] ws post := by
  refine zC.intro (by decide +kernel) rfl (Nat.le_of_ble_eq_true rfl) fun x hq => ?_
  have hlt : j < xs.length := (List.getElem?_eq_some_iff.mp hj).1
  obtain ⟨n, hn⟩ : ∃ n, xs.length = n + 1 := ⟨xs.length - 1, by omega⟩
  cases d with
  | none => rw [hx rfl] at hlt; exact absurd hlt (by simp)
  | some d =>
  have hs : zHas ws ((l, .inr (0, [.ref d, .int (nI (n + 1)), .int m])) :: (d, .inl (g.2.2.1.2.1, 10, .inr (.inr (.inr (.inr (zrefs xs)))))) :: R) := by rw [← hn]; exact hs
  refine zo_iload_n (i := i_Al_remove) (pc := 0) d_Al_remove_0 rfl ?_
  refine zo_aload_n (i := i_Al_remove) (pc := 1) d_Al_remove_1 rfl rfl ?_
  refine zo_get (i := i_Al_remove) (pc := 2) 0 1 rfl zok_Al (Nat.le_of_ble_eq_true rfl) (ztb_of k_86 rfl) d_Al_remove_2 (fun _ _ _ h => h) (hs.get (t := 0) rfl) rfl ?_
  refine zc_S2 (i := i_Al_remove) (pc := 5) m_Ob_checkIndex (ztb_of k_321 rfl) (ztb_of k_322 rfl) d_Al_remove_5 (Nat.le_of_ble_eq_true rfl) (Nat.le_of_ble_eq_true rfl) (Nat.le_of_ble_eq_true rfl) (Nat.le_of_ble_eq_true rfl) (c_Ob_checkIndex (nI_pos (by omega)) (nI_lt (show j < n + 1 by omega) (by omega)) ?_)
  refine zo_pop (i := i_Al_remove) (pc := 8) d_Al_remove_8 rfl ?_
  refine zo_aload_n (i := i_Al_remove) (pc := 9) d_Al_remove_9 rfl rfl ?_
  refine zo_get (i := i_Al_remove) (pc := 10) 0 0 rfl zok_Al (Nat.le_of_ble_eq_true rfl) (ztb_of k_85 rfl) d_Al_remove_10 (fun _ _ _ h => h) (hs.get (t := 0) rfl) rfl ?_
  refine zo_astore_n (i := i_Al_remove) (pc := 13) d_Al_remove_13 rfl (Nat.le_of_ble_eq_true rfl) ?_
  refine zo_aload_n (i := i_Al_remove) (pc := 14) d_Al_remove_14 rfl rfl ?_
  refine zo_iload_n (i := i_Al_remove) (pc := 15) d_Al_remove_15 rfl ?_
  refine zo_aaloadS (i := i_Al_remove) (pc := 16) d_Al_remove_16 (hs.get (t := 1) rfl) (vp_in_nI (by omega) (by decide)) (by rw [nI_clamp (by omega)]; exact hj) ?_
  refine zo_astore_n (i := i_Al_remove) (pc := 17) d_Al_remove_17 rfl (Nat.le_of_ble_eq_true rfl) ?_
  refine zo_aload_n (i := i_Al_remove) (pc := 18) d_Al_remove_18 rfl rfl ?_
  refine zo_aload_n (i := i_Al_remove) (pc := 19) d_Al_remove_19 rfl rfl ?_
  refine zo_iload_n (i := i_Al_remove) (pc := 20) d_Al_remove_20 rfl ?_
  refine zc_V2 (i := i_Al_remove) (pc := 21) 0 rfl m_Al_fastRemove (ztb_of k_448 rfl) (ztb_of k_450 rfl) s_Al_fastRemove d_Al_remove_21 (Nat.le_of_ble_eq_true rfl) (Nat.le_of_ble_eq_true rfl) (Nat.le_of_ble_eq_true rfl) (Nat.le_of_ble_eq_true rfl) (hs.get (t := 0) rfl) (c_Al_fastRemove c hc hw hn (by omega) (by omega) hel hs fun ws hs => ?_)
  refine zo_aload_n (i := i_Al_remove) (pc := 24) d_Al_remove_24 rfl rfl ?_
  refine zo_areturn (i := i_Al_remove) (pc := 25) hq d_Al_remove_25 rfl (.inl ⟨_, rfl⟩) (.inr ⟨_, rfl⟩) (Nat.le_of_ble_eq_true rfl) (Nat.le_of_ble_eq_true rfl) ?_
  refine k (m + 1) ws ?_
  have e : n = (xs.eraseIdx j).length := by rw [List.length_eraseIdx_of_lt hlt]; omega
  rw [e] at hs
  exact hs
