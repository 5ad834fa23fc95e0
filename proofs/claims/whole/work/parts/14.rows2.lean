/-! The rows of the class that change (walks by a program, gen14.py). -/
section ZRow2
/-- els, of which those from k on have been sifted -/
def zcur {α : Type} (p : α → Bool) (els : List α) (k : Nat) : List α := els.take k ++ (els.drop k).filter p
theorem zcur_0 {α : Type} (p : α → Bool) (els : List α) : zcur p els 0 = els.filter p := rfl
theorem zcur_n {α : Type} (p : α → Bool) (els : List α) : zcur p els els.length = els := by
  unfold zcur
  rw [List.take_length, List.drop_length, List.filter_nil, List.append_nil]
theorem zcut {α : Type} {els : List α} {j : Nat} {e : α} (he : els[j]? = some e) : els.take (j + 1) = els.take j ++ [e] ∧ els.drop j = e :: els.drop (j + 1) ∧ (els.take j).length = j := by
  obtain ⟨hlt, hge⟩ := List.getElem?_eq_some_iff.mp he
  refine ⟨?_, ?_, ?_⟩
  · rw [List.take_succ, he]; rfl
  · rw [List.drop_eq_getElem_cons hlt, hge]
  · rw [List.length_take]; omega
theorem zcur_at {α : Type} {p : α → Bool} {els : List α} {j : Nat} {e : α} (he : els[j]? = some e) : (zcur p els (j + 1))[j]? = some e := by
  obtain ⟨h1, -, h3⟩ := zcut he
  unfold zcur
  rw [h1, List.append_assoc, List.getElem?_append_right (by omega), h3, Nat.sub_self]
  rfl
theorem zcur_keep {α : Type} {p : α → Bool} {els : List α} {j : Nat} {e : α} (he : els[j]? = some e) (hp : p e = true) : zcur p els (j + 1) = zcur p els j := by
  obtain ⟨h1, h2, -⟩ := zcut he
  unfold zcur
  rw [h1, h2, List.filter_cons, if_pos hp, List.append_assoc]
  rfl
theorem zcur_drop {α : Type} {p : α → Bool} {els : List α} {j : Nat} {e : α} (he : els[j]? = some e) (hp : p e = false) : (zcur p els (j + 1)).eraseIdx j = zcur p els j := by
  obtain ⟨h1, h2, h3⟩ := zcut he
  unfold zcur
  rw [h1, h2, List.filter_cons, if_neg (by rw [hp]; decide), List.append_assoc, List.eraseIdx_append_of_length_le (by omega), h3, Nat.sub_self]
  rfl
theorem zcur_len {α : Type} (p : α → Bool) (els : List α) (k : Nat) : (zcur p els k).length ≤ els.length := by
  unfold zcur
  rw [List.length_append]
  have h1 := List.length_filter_le p (els.drop k)
  have h2 : (els.take k).length + (els.drop k).length = els.length := by rw [← List.length_append, List.take_append_drop]
  omega
theorem zcur_nil {α : Type} {p : α → Bool} {els : List α} {k : Nat} (h : els = []) : zcur p els k = [] := by subst h; simp [zcur]
theorem nI_dec (i : Nat) : nI i + Int32.ofInt (-1) = nI i - 1 := by
  rw [Int32.sub_eq_add_neg]
  rfl
/-- the first that fits, changed -/
def zset1 {α : Type} (p : α → Bool) (f : α → α) : List α → List α
  | [] => []
  | e :: r => if p e then f e :: r else e :: zset1 p f r
theorem zset1_at {α : Type} {p : α → Bool} {f : α → α} : ∀ {els : List α} {j : Nat} {e : α}, (∀ y ∈ els.take j, p y = false) → els[j]? = some e → p e = true → zset1 p f els = els.set j (f e)
  | [], j, e, _, h, _ => by simp at h
  | a :: r, 0, e, _, h, hp => by
    rw [List.getElem?_cons_zero] at h
    cases h
    rw [zset1, if_pos hp]
    rfl
  | a :: r, j + 1, e, hno, h, hp => by
    rw [List.getElem?_cons_succ] at h
    have h0 : p a = false := hno a (by rw [List.take_succ_cons]; exact List.mem_cons_self)
    rw [zset1, if_neg (by rw [h0]; decide), List.set_cons_succ, zset1_at (fun y hy => hno y (by rw [List.take_succ_cons]; exact List.mem_cons_of_mem _ hy)) h hp]
theorem zfind_idx {α : Type} {p : α → Bool} : ∀ {els : List α} {e : α}, els.find? p = some e → ∃ j, els[j]? = some e ∧ p e = true ∧ ∀ y ∈ els.take j, p y = false
  | [], e, h => by simp at h
  | a :: r, e, h => by
    rw [List.find?_cons] at h
    by_cases hp : p a = true
    · rw [hp] at h
      cases h
      exact ⟨0, rfl, hp, fun y hy => by simp at hy⟩
    · have hp : p a = false := by simpa using hp
      rw [hp] at h
      obtain ⟨j, h1, h2, h3⟩ := zfind_idx (els := r) h
      refine ⟨j + 1, by rw [List.getElem?_cons_succ]; exact h1, h2, fun y hy => ?_⟩
      rw [List.take_succ_cons] at hy
      rcases List.mem_cons.mp hy with rfl | h
      · exact hp
      · exact h3 y h
theorem zper {α : Type} : ∀ {els : List α} {j : Nat} {e : α}, els[j]? = some e → els.Perm (e :: els.eraseIdx j)
  | [], j, e, h => by simp at h
  | a :: r, 0, e, h => by
    rw [List.getElem?_cons_zero] at h
    cases h
    exact List.Perm.refl _
  | a :: r, j + 1, e, h => by
    rw [List.getElem?_cons_succ] at h
    rw [List.eraseIdx_cons_succ]
    exact (List.Perm.cons a (zper h)).trans (List.Perm.swap _ _ _)
theorem zper_set {α : Type} {els : List α} {j : Nat} {e f : α} (he : els[j]? = some e) : (els.set j f).Perm (f :: els.eraseIdx j) := by
  have hlt : j < els.length := (List.getElem?_eq_some_iff.mp he).1
  have h : (els.set j f)[j]? = some f := by rw [List.getElem?_set, if_pos rfl, if_pos hlt]
  have h2 := zper h
  rw [List.eraseIdx_set_eq] at h2
  exact h2
/-- a row without the cell of its element j -/
def rwX {α : Type} (g : zG) (rc ec : Nat) (v : α → List Value) (r l : Nat) (d : Option Nat) (m : Int32) (ex : List Value) (els : List (Nat × α)) (j : Nat) (R : va_W) : va_W :=
  alW g l d m (els.map Prod.fst) ++ ((r, .inr (rc, .ref l :: ex)) :: ((els.eraseIdx j).map (fun e => (e.1, .inr (ec, v e.2))) ++ R))
theorem rw_pull {α : Type} {g : zG} {ws R : va_W} {rc ec : Nat} {v : α → List Value} {r l : Nat} {d : Option Nat} {m : Int32} {ex : List Value} {els : List (Nat × α)} {j : Nat} {e : Nat × α} (hs : zHas ws (rwW g rc ec v r l d m ex els ++ R)) (he : els[j]? = some e) :
    zHas ws ((e.1, .inr (ec, v e.2)) :: rwX g rc ec v r l d m ex els j R) := by
  refine (rw_open hs).perm ?_
  have p1 : (els.map (fun e => (e.1, (.inr (ec, v e.2) : va_E)))).Perm ((e.1, .inr (ec, v e.2)) :: (els.eraseIdx j).map (fun e => (e.1, (.inr (ec, v e.2) : va_E)))) := (zper he).map _
  refine (List.Perm.append_left _ (List.Perm.cons _ (List.Perm.append_right R p1))).trans ?_
  refine (List.Perm.append_left _ (List.Perm.swap _ _ _)).trans ?_
  exact List.perm_middle
theorem rw_push {α : Type} {g : zG} {ws R : va_W} {rc ec : Nat} {v : α → List Value} {r l : Nat} {d : Option Nat} {m : Int32} {ex : List Value} {els : List (Nat × α)} {j : Nat} {e : Nat × α} {y : α} (he : els[j]? = some e)
    (hs : zHas ws ((e.1, .inr (ec, v y)) :: rwX g rc ec v r l d m ex els j R)) : zHas ws (rwW g rc ec v r l d m ex (els.set j (e.1, y)) ++ R) := by
  refine rw_close (els := els.set j (e.1, y)) ?_
  have e1 : (els.set j (e.1, y)).map Prod.fst = els.map Prod.fst := by
    rw [List.map_set]
    refine List.ext_getElem? fun t => ?_
    rw [List.getElem?_set]
    by_cases ht : j = t
    · subst ht
      rw [if_pos rfl, List.getElem?_map, he, if_pos (by rw [List.length_map]; exact (List.getElem?_eq_some_iff.mp he).1)]
      rfl
    · rw [if_neg ht]
  rw [e1]
  refine hs.perm ?_
  have p1 : ((els.set j (e.1, y)).map (fun e => (e.1, (.inr (ec, v e.2) : va_E)))).Perm ((e.1, .inr (ec, v y)) :: (els.eraseIdx j).map (fun e => (e.1, (.inr (ec, v e.2) : va_E)))) := (zper_set he).map _
  refine List.Perm.trans ?_ (List.Perm.append_left _ (List.Perm.cons _ (List.Perm.append_right R p1.symm)))
  refine List.Perm.trans ?_ (List.Perm.append_left _ (List.Perm.swap _ _ _))
  exact List.perm_middle.symm
/-- room for one more: the first goes if there are n -/
def zcap {α : Type} (n : Nat) (els : List α) : List α := if n ≤ els.length then els.eraseIdx 0 else els
/-- how many packets waited for those that are given up -/
def zgone (t : Int32) (x : zND) : Bool := zasked x.2.2.1 && !decide (t - x.2.2.2.1 < 3)
def zgw (t : Int32) : List (Nat × zND) → Int32
  | [] => 0
  | e :: r => if zgone t e.2 then zgw t r + zb (!decide (e.2.2.2.2.2.2 = 0)) else zgw t r
end ZRow2
theorem c_Or_expire {g : zG} {ws : va_W} {post : Option Value → va_W → Prop} {r l : Nat} {d : Option Nat} {m : Int32} {els : List (Nat × zOD)} {R : va_W} (hs : zHas ws (rwW g 6 5 odV r l d m [] els ++ R)) (hx : d = none → els = []) (hl : els.length ≤ 10) {a : Int32} (k : ∀ m' w, zHas w (rwW g 6 5 odV r l d m' [] (els.filter (fun e => decide (a < e.2.2.2.2.1))) ++ R) → post none w) : zC g i_Or_expire [.ref r, .int a] ws post := by
  refine zC.intro (by decide +kernel) rfl (Nat.le_of_ble_eq_true rfl) fun x hq => ?_
  have loop : ∀ (k : Nat) (ws : va_W) (m : Int32), k ≤ els.length → zHas ws (rwW g 6 5 odV r l d m [] (zcur (fun e => decide (a < e.2.2.2.2.1)) els k) ++ R) → zW x g i_Or_expire 10 [some (.ref r), some (.int a), some (.int (nI k - 1))] [] ws 0 0 := by
    intro k
    induction k with
    | zero =>
      intro ws m hk hs
      refine zo_iload_n (i := i_Or_expire) (pc := 10) d_Or_expire_10 rfl ?_
      refine zo_if_lt (i := i_Or_expire) (pc := 11) (tgt := 47) d_Or_expire_11 (by decide) (fun h11 => ?_) (fun h11 => False.elim (by first | exact absurd h11 (by decide) | exact absurd (by decide) h11))
      refine zo_return (i := i_Or_expire) (pc := 47) hq d_Or_expire_47 rfl (Nat.le_of_ble_eq_true rfl) (Nat.le_of_ble_eq_true rfl) ?_
      exact k m ws hs
    | succ j ih =>
      intro ws m hk hs
      obtain ⟨e, he⟩ := zidx (els := els) (i := j) (by omega)
      have hcj := zcur_at (p := (fun e => decide (a < e.2.2.2.2.1))) he
      have hse := rw_el hs hcj
      have hsl := rw_open hs
      have hlc := zcur_len ((fun e => decide (a < e.2.2.2.2.1))) els (j + 1)
      have hxx : d = none → (zcur ((fun e => decide (a < e.2.2.2.2.1))) els (j + 1)).map Prod.fst = [] := fun h => by rw [zcur_nil (hx h)]; rfl
      have hll : ((zcur ((fun e => decide (a < e.2.2.2.2.1))) els (j + 1)).map Prod.fst).length ≤ 10 := by rw [List.length_map]; omega
      rw [nI_pred]
      refine zo_iload_n (i := i_Or_expire) (pc := 10) d_Or_expire_10 rfl ?_
      refine zo_if_lt (i := i_Or_expire) (pc := 11) (tgt := 47) d_Or_expire_11 (by decide) (fun h11 => False.elim (by first | exact absurd h11 (nI_pos (by omega)) | exact absurd (nI_pos (by omega)) h11)) (fun h11 => ?_)
      refine zo_iload_n (i := i_Or_expire) (pc := 14) d_Or_expire_14 rfl ?_
      refine zo_aload_n (i := i_Or_expire) (pc := 15) d_Or_expire_15 rfl rfl ?_
      refine zo_get (i := i_Or_expire) (pc := 16) 6 0 rfl zok_Or (Nat.le_of_ble_eq_true rfl) (ztb_of k_97 rfl) d_Or_expire_16 (fun _ _ _ h => h) (rw_head hs) rfl ?_
      refine zo_iload_n (i := i_Or_expire) (pc := 19) d_Or_expire_19 rfl ?_
      refine zc_V1 (i := i_Or_expire) (pc := 20) 0 rfl m_Al_get (ztb_of k_442 rfl) (ztb_of k_318 rfl) (ztb_of k_319 rfl) d_Or_expire_20 (Nat.le_of_ble_eq_true rfl) (Nat.le_of_ble_eq_true rfl) (Nat.le_of_ble_eq_true rfl) (Nat.le_of_ble_eq_true rfl) (alW_head hsl) (c_al_get hsl hxx hll (rw_idx hcj) ?_)
      refine zo_cast (i := i_Or_expire) (pc := 23) 5 rfl d_Or_expire_23 (ztb_of k_443 rfl) (ztb_of k_1161 rfl) hse ?_
      refine zo_getN (i := i_Or_expire) (pc := 26) 5 3 rfl zok_Oa (Nat.le_of_ble_eq_true rfl) (ztb_of k_176 rfl) d_Or_expire_26 (fun _ _ _ h => h) hse rfl ?_
      refine zo_icmp_lt (i := i_Or_expire) (pc := 29) (tgt := 41) d_Or_expire_29 (by decide) (fun h29 => ?_) (fun h29 => ?_)
      · refine zo_iinc (i := i_Or_expire) (pc := 41) (v := nI j - 1) d_Or_expire_41 rfl (nI_dec j) (Nat.le_of_ble_eq_true rfl) ?_
        refine zo_goto (i := i_Or_expire) (pc := 44) (tgt := 10) d_Or_expire_44 (by decide) ?_
        first | exact ih ws m (by omega) (hs.eq (by rw [zcur_keep he (decide_eq_true h29)])) | exact ih ws m (by omega) ((rw_less j hs).eq (by rw [zcur_drop he (decide_eq_false h29)]))
      · refine zo_aload_n (i := i_Or_expire) (pc := 32) d_Or_expire_32 rfl rfl ?_
        refine zo_get (i := i_Or_expire) (pc := 33) 6 0 rfl zok_Or (Nat.le_of_ble_eq_true rfl) (ztb_of k_97 rfl) d_Or_expire_33 (fun _ _ _ h => h) (rw_head hs) rfl ?_
        refine zo_iload_n (i := i_Or_expire) (pc := 36) d_Or_expire_36 rfl ?_
        refine zc_V1 (i := i_Or_expire) (pc := 37) 0 rfl m_Al_remove (ztb_of k_444 rfl) (ztb_of k_445 rfl) (ztb_of k_446 rfl) d_Or_expire_37 (Nat.le_of_ble_eq_true rfl) (Nat.le_of_ble_eq_true rfl) (Nat.le_of_ble_eq_true rfl) (Nat.le_of_ble_eq_true rfl) (alW_head hsl) (c_al_remove 5 rfl (ztb_of k_1171 rfl) hxx hll (rw_idx hcj) rw_all hsl fun m ws hs => ?_)
        refine zo_pop (i := i_Or_expire) (pc := 40) d_Or_expire_40 rfl ?_
        refine zo_iinc (i := i_Or_expire) (pc := 41) (v := nI j - 1) d_Or_expire_41 rfl (nI_dec j) (Nat.le_of_ble_eq_true rfl) ?_
        refine zo_goto (i := i_Or_expire) (pc := 44) (tgt := 10) d_Or_expire_44 (by decide) ?_
        first | exact ih ws m (by omega) (hs.eq (by rw [zcur_keep he (decide_eq_true h29)])) | exact ih ws m (by omega) ((rw_less j hs).eq (by rw [zcur_drop he (decide_eq_false h29)]))
  have hsl := rw_open hs
  have hxx : d = none → els.map Prod.fst = [] := fun h => by rw [hx h]; rfl
  have hll : (els.map Prod.fst).length ≤ 10 := by rw [List.length_map]; exact hl
  refine zo_aload_n (i := i_Or_expire) (pc := 0) d_Or_expire_0 rfl rfl ?_
  refine zo_get (i := i_Or_expire) (pc := 1) 6 0 rfl zok_Or (Nat.le_of_ble_eq_true rfl) (ztb_of k_97 rfl) d_Or_expire_1 (fun _ _ _ h => h) (rw_head hs) rfl ?_
  refine zc_V0 (i := i_Or_expire) (pc := 4) 0 rfl m_Al_size (ztb_of k_441 rfl) (ztb_of k_314 rfl) (ztb_of k_315 rfl) d_Or_expire_4 (Nat.le_of_ble_eq_true rfl) (Nat.le_of_ble_eq_true rfl) (Nat.le_of_ble_eq_true rfl) (Nat.le_of_ble_eq_true rfl) (alW_head hsl) (c_al_size hsl ?_)
  rw [List.length_map]
  refine zo_iconst (i := i_Or_expire) (pc := 7) (v := 1) d_Or_expire_7 (by decide) ?_
  refine zo_isub (i := i_Or_expire) (pc := 8) d_Or_expire_8 ?_
  refine zo_istore_n (i := i_Or_expire) (pc := 9) d_Or_expire_9 (Nat.le_of_ble_eq_true rfl) ?_
  exact loop els.length ws m (Nat.le_refl _) (hs.eq (by rw [zcur_n]))
theorem c_Tr_expire {g : zG} {ws : va_W} {post : Option Value → va_W → Prop} {r l : Nat} {d : Option Nat} {m mo : Int32} {els : List (Nat × zTD)} {R : va_W} (hs : zHas ws (rwW g 8 7 tdV r l d m [.int mo] els ++ R)) (hx : d = none → els = []) (hl : els.length ≤ 10) {a : Int32} (k : ∀ m' w, zHas w (rwW g 8 7 tdV r l d m' [.int mo] (els.filter (fun e => decide (a < e.2.2.1))) ++ R) → post none w) : zC g i_Tr_expire [.ref r, .int a] ws post := by
  refine zC.intro (by decide +kernel) rfl (Nat.le_of_ble_eq_true rfl) fun x hq => ?_
  have loop : ∀ (k : Nat) (ws : va_W) (m : Int32), k ≤ els.length → zHas ws (rwW g 8 7 tdV r l d m [.int mo] (zcur (fun e => decide (a < e.2.2.1)) els k) ++ R) → zW x g i_Tr_expire 10 [some (.ref r), some (.int a), some (.int (nI k - 1))] [] ws 0 0 := by
    intro k
    induction k with
    | zero =>
      intro ws m hk hs
      refine zo_iload_n (i := i_Tr_expire) (pc := 10) d_Tr_expire_10 rfl ?_
      refine zo_if_lt (i := i_Tr_expire) (pc := 11) (tgt := 47) d_Tr_expire_11 (by decide) (fun h11 => ?_) (fun h11 => False.elim (by first | exact absurd h11 (by decide) | exact absurd (by decide) h11))
      refine zo_return (i := i_Tr_expire) (pc := 47) hq d_Tr_expire_47 rfl (Nat.le_of_ble_eq_true rfl) (Nat.le_of_ble_eq_true rfl) ?_
      exact k m ws hs
    | succ j ih =>
      intro ws m hk hs
      obtain ⟨e, he⟩ := zidx (els := els) (i := j) (by omega)
      have hcj := zcur_at (p := (fun e => decide (a < e.2.2.1))) he
      have hse := rw_el hs hcj
      have hsl := rw_open hs
      have hlc := zcur_len ((fun e => decide (a < e.2.2.1))) els (j + 1)
      have hxx : d = none → (zcur ((fun e => decide (a < e.2.2.1))) els (j + 1)).map Prod.fst = [] := fun h => by rw [zcur_nil (hx h)]; rfl
      have hll : ((zcur ((fun e => decide (a < e.2.2.1))) els (j + 1)).map Prod.fst).length ≤ 10 := by rw [List.length_map]; omega
      rw [nI_pred]
      refine zo_iload_n (i := i_Tr_expire) (pc := 10) d_Tr_expire_10 rfl ?_
      refine zo_if_lt (i := i_Tr_expire) (pc := 11) (tgt := 47) d_Tr_expire_11 (by decide) (fun h11 => False.elim (by first | exact absurd h11 (nI_pos (by omega)) | exact absurd (nI_pos (by omega)) h11)) (fun h11 => ?_)
      refine zo_iload_n (i := i_Tr_expire) (pc := 14) d_Tr_expire_14 rfl ?_
      refine zo_aload_n (i := i_Tr_expire) (pc := 15) d_Tr_expire_15 rfl rfl ?_
      refine zo_get (i := i_Tr_expire) (pc := 16) 8 0 rfl zok_Tr (Nat.le_of_ble_eq_true rfl) (ztb_of k_121 rfl) d_Tr_expire_16 (fun _ _ _ h => h) (rw_head hs) rfl ?_
      refine zo_iload_n (i := i_Tr_expire) (pc := 19) d_Tr_expire_19 rfl ?_
      refine zc_V1 (i := i_Tr_expire) (pc := 20) 0 rfl m_Al_get (ztb_of k_346 rfl) (ztb_of k_318 rfl) (ztb_of k_319 rfl) d_Tr_expire_20 (Nat.le_of_ble_eq_true rfl) (Nat.le_of_ble_eq_true rfl) (Nat.le_of_ble_eq_true rfl) (Nat.le_of_ble_eq_true rfl) (alW_head hsl) (c_al_get hsl hxx hll (rw_idx hcj) ?_)
      refine zo_cast (i := i_Tr_expire) (pc := 23) 7 rfl d_Tr_expire_23 (ztb_of k_347 rfl) (ztb_of k_1160 rfl) hse ?_
      refine zo_getN (i := i_Tr_expire) (pc := 26) 7 1 rfl zok_Ti (Nat.le_of_ble_eq_true rfl) (ztb_of k_610 rfl) d_Tr_expire_26 (fun _ _ _ h => h) hse rfl ?_
      refine zo_icmp_lt (i := i_Tr_expire) (pc := 29) (tgt := 41) d_Tr_expire_29 (by decide) (fun h29 => ?_) (fun h29 => ?_)
      · refine zo_iinc (i := i_Tr_expire) (pc := 41) (v := nI j - 1) d_Tr_expire_41 rfl (nI_dec j) (Nat.le_of_ble_eq_true rfl) ?_
        refine zo_goto (i := i_Tr_expire) (pc := 44) (tgt := 10) d_Tr_expire_44 (by decide) ?_
        first | exact ih ws m (by omega) (hs.eq (by rw [zcur_keep he (decide_eq_true h29)])) | exact ih ws m (by omega) ((rw_less j hs).eq (by rw [zcur_drop he (decide_eq_false h29)]))
      · refine zo_aload_n (i := i_Tr_expire) (pc := 32) d_Tr_expire_32 rfl rfl ?_
        refine zo_get (i := i_Tr_expire) (pc := 33) 8 0 rfl zok_Tr (Nat.le_of_ble_eq_true rfl) (ztb_of k_121 rfl) d_Tr_expire_33 (fun _ _ _ h => h) (rw_head hs) rfl ?_
        refine zo_iload_n (i := i_Tr_expire) (pc := 36) d_Tr_expire_36 rfl ?_
        refine zc_V1 (i := i_Tr_expire) (pc := 37) 0 rfl m_Al_remove (ztb_of k_500 rfl) (ztb_of k_445 rfl) (ztb_of k_446 rfl) d_Tr_expire_37 (Nat.le_of_ble_eq_true rfl) (Nat.le_of_ble_eq_true rfl) (Nat.le_of_ble_eq_true rfl) (Nat.le_of_ble_eq_true rfl) (alW_head hsl) (c_al_remove 7 rfl (ztb_of k_1174 rfl) hxx hll (rw_idx hcj) rw_all hsl fun m ws hs => ?_)
        refine zo_pop (i := i_Tr_expire) (pc := 40) d_Tr_expire_40 rfl ?_
        refine zo_iinc (i := i_Tr_expire) (pc := 41) (v := nI j - 1) d_Tr_expire_41 rfl (nI_dec j) (Nat.le_of_ble_eq_true rfl) ?_
        refine zo_goto (i := i_Tr_expire) (pc := 44) (tgt := 10) d_Tr_expire_44 (by decide) ?_
        first | exact ih ws m (by omega) (hs.eq (by rw [zcur_keep he (decide_eq_true h29)])) | exact ih ws m (by omega) ((rw_less j hs).eq (by rw [zcur_drop he (decide_eq_false h29)]))
  have hsl := rw_open hs
  have hxx : d = none → els.map Prod.fst = [] := fun h => by rw [hx h]; rfl
  have hll : (els.map Prod.fst).length ≤ 10 := by rw [List.length_map]; exact hl
  refine zo_aload_n (i := i_Tr_expire) (pc := 0) d_Tr_expire_0 rfl rfl ?_
  refine zo_get (i := i_Tr_expire) (pc := 1) 8 0 rfl zok_Tr (Nat.le_of_ble_eq_true rfl) (ztb_of k_121 rfl) d_Tr_expire_1 (fun _ _ _ h => h) (rw_head hs) rfl ?_
  refine zc_V0 (i := i_Tr_expire) (pc := 4) 0 rfl m_Al_size (ztb_of k_345 rfl) (ztb_of k_314 rfl) (ztb_of k_315 rfl) d_Tr_expire_4 (Nat.le_of_ble_eq_true rfl) (Nat.le_of_ble_eq_true rfl) (Nat.le_of_ble_eq_true rfl) (Nat.le_of_ble_eq_true rfl) (alW_head hsl) (c_al_size hsl ?_)
  rw [List.length_map]
  refine zo_iconst (i := i_Tr_expire) (pc := 7) (v := 1) d_Tr_expire_7 (by decide) ?_
  refine zo_isub (i := i_Tr_expire) (pc := 8) d_Tr_expire_8 ?_
  refine zo_istore_n (i := i_Tr_expire) (pc := 9) d_Tr_expire_9 (Nat.le_of_ble_eq_true rfl) ?_
  exact loop els.length ws m (Nat.le_refl _) (hs.eq (by rw [zcur_n]))
theorem c_Tr_drop {g : zG} {ws : va_W} {post : Option Value → va_W → Prop} {r l : Nat} {d : Option Nat} {m mo : Int32} {els : List (Nat × zTD)} {R : va_W} (hs : zHas ws (rwW g 8 7 tdV r l d m [.int mo] els ++ R)) (hx : d = none → els = []) (hl : els.length ≤ 10) {a : Int32} (k : ∀ m' w, zHas w (rwW g 8 7 tdV r l d m' [.int mo] (els.filter (fun e => !decide (e.2.1 = a))) ++ R) → post none w) : zC g i_Tr_drop [.ref r, .int a] ws post := by
  refine zC.intro (by decide +kernel) rfl (Nat.le_of_ble_eq_true rfl) fun x hq => ?_
  have loop : ∀ (k : Nat) (ws : va_W) (m : Int32), k ≤ els.length → zHas ws (rwW g 8 7 tdV r l d m [.int mo] (zcur (fun e => !decide (e.2.1 = a)) els k) ++ R) → zW x g i_Tr_drop 10 [some (.ref r), some (.int a), some (.int (nI k - 1))] [] ws 0 0 := by
    intro k
    induction k with
    | zero =>
      intro ws m hk hs
      refine zo_iload_n (i := i_Tr_drop) (pc := 10) d_Tr_drop_10 rfl ?_
      refine zo_if_lt (i := i_Tr_drop) (pc := 11) (tgt := 47) d_Tr_drop_11 (by decide) (fun h11 => ?_) (fun h11 => False.elim (by first | exact absurd h11 (by decide) | exact absurd (by decide) h11))
      refine zo_return (i := i_Tr_drop) (pc := 47) hq d_Tr_drop_47 rfl (Nat.le_of_ble_eq_true rfl) (Nat.le_of_ble_eq_true rfl) ?_
      exact k m ws hs
    | succ j ih =>
      intro ws m hk hs
      obtain ⟨e, he⟩ := zidx (els := els) (i := j) (by omega)
      have hcj := zcur_at (p := (fun e => !decide (e.2.1 = a))) he
      have hse := rw_el hs hcj
      have hsl := rw_open hs
      have hlc := zcur_len ((fun e => !decide (e.2.1 = a))) els (j + 1)
      have hxx : d = none → (zcur ((fun e => !decide (e.2.1 = a))) els (j + 1)).map Prod.fst = [] := fun h => by rw [zcur_nil (hx h)]; rfl
      have hll : ((zcur ((fun e => !decide (e.2.1 = a))) els (j + 1)).map Prod.fst).length ≤ 10 := by rw [List.length_map]; omega
      rw [nI_pred]
      refine zo_iload_n (i := i_Tr_drop) (pc := 10) d_Tr_drop_10 rfl ?_
      refine zo_if_lt (i := i_Tr_drop) (pc := 11) (tgt := 47) d_Tr_drop_11 (by decide) (fun h11 => False.elim (by first | exact absurd h11 (nI_pos (by omega)) | exact absurd (nI_pos (by omega)) h11)) (fun h11 => ?_)
      refine zo_aload_n (i := i_Tr_drop) (pc := 14) d_Tr_drop_14 rfl rfl ?_
      refine zo_get (i := i_Tr_drop) (pc := 15) 8 0 rfl zok_Tr (Nat.le_of_ble_eq_true rfl) (ztb_of k_121 rfl) d_Tr_drop_15 (fun _ _ _ h => h) (rw_head hs) rfl ?_
      refine zo_iload_n (i := i_Tr_drop) (pc := 18) d_Tr_drop_18 rfl ?_
      refine zc_V1 (i := i_Tr_drop) (pc := 19) 0 rfl m_Al_get (ztb_of k_346 rfl) (ztb_of k_318 rfl) (ztb_of k_319 rfl) d_Tr_drop_19 (Nat.le_of_ble_eq_true rfl) (Nat.le_of_ble_eq_true rfl) (Nat.le_of_ble_eq_true rfl) (Nat.le_of_ble_eq_true rfl) (alW_head hsl) (c_al_get hsl hxx hll (rw_idx hcj) ?_)
      refine zo_cast (i := i_Tr_drop) (pc := 22) 7 rfl d_Tr_drop_22 (ztb_of k_347 rfl) (ztb_of k_1160 rfl) hse ?_
      refine zo_getN (i := i_Tr_drop) (pc := 25) 7 0 rfl zok_Ti (Nat.le_of_ble_eq_true rfl) (ztb_of k_607 rfl) d_Tr_drop_25 (fun _ _ _ h => h) hse rfl ?_
      refine zo_iload_n (i := i_Tr_drop) (pc := 28) d_Tr_drop_28 rfl ?_
      refine zo_icmp_ne (i := i_Tr_drop) (pc := 29) (tgt := 41) d_Tr_drop_29 (by decide) (fun h29 => ?_) (fun h29 => ?_)
      · refine zo_iinc (i := i_Tr_drop) (pc := 41) (v := nI j - 1) d_Tr_drop_41 rfl (nI_dec j) (Nat.le_of_ble_eq_true rfl) ?_
        refine zo_goto (i := i_Tr_drop) (pc := 44) (tgt := 10) d_Tr_drop_44 (by decide) ?_
        first | exact ih ws m (by omega) (hs.eq (by rw [zcur_keep he (by rw [decide_eq_false h29]; rfl)])) | exact ih ws m (by omega) ((rw_less j hs).eq (by rw [zcur_drop he (by rw [decide_eq_true h29]; rfl)]))
      · refine zo_aload_n (i := i_Tr_drop) (pc := 32) d_Tr_drop_32 rfl rfl ?_
        refine zo_get (i := i_Tr_drop) (pc := 33) 8 0 rfl zok_Tr (Nat.le_of_ble_eq_true rfl) (ztb_of k_121 rfl) d_Tr_drop_33 (fun _ _ _ h => h) (rw_head hs) rfl ?_
        refine zo_iload_n (i := i_Tr_drop) (pc := 36) d_Tr_drop_36 rfl ?_
        refine zc_V1 (i := i_Tr_drop) (pc := 37) 0 rfl m_Al_remove (ztb_of k_500 rfl) (ztb_of k_445 rfl) (ztb_of k_446 rfl) d_Tr_drop_37 (Nat.le_of_ble_eq_true rfl) (Nat.le_of_ble_eq_true rfl) (Nat.le_of_ble_eq_true rfl) (Nat.le_of_ble_eq_true rfl) (alW_head hsl) (c_al_remove 7 rfl (ztb_of k_1174 rfl) hxx hll (rw_idx hcj) rw_all hsl fun m ws hs => ?_)
        refine zo_pop (i := i_Tr_drop) (pc := 40) d_Tr_drop_40 rfl ?_
        refine zo_iinc (i := i_Tr_drop) (pc := 41) (v := nI j - 1) d_Tr_drop_41 rfl (nI_dec j) (Nat.le_of_ble_eq_true rfl) ?_
        refine zo_goto (i := i_Tr_drop) (pc := 44) (tgt := 10) d_Tr_drop_44 (by decide) ?_
        first | exact ih ws m (by omega) (hs.eq (by rw [zcur_keep he (by rw [decide_eq_false h29]; rfl)])) | exact ih ws m (by omega) ((rw_less j hs).eq (by rw [zcur_drop he (by rw [decide_eq_true h29]; rfl)]))
  have hsl := rw_open hs
  have hxx : d = none → els.map Prod.fst = [] := fun h => by rw [hx h]; rfl
  have hll : (els.map Prod.fst).length ≤ 10 := by rw [List.length_map]; exact hl
  refine zo_aload_n (i := i_Tr_drop) (pc := 0) d_Tr_drop_0 rfl rfl ?_
  refine zo_get (i := i_Tr_drop) (pc := 1) 8 0 rfl zok_Tr (Nat.le_of_ble_eq_true rfl) (ztb_of k_121 rfl) d_Tr_drop_1 (fun _ _ _ h => h) (rw_head hs) rfl ?_
  refine zc_V0 (i := i_Tr_drop) (pc := 4) 0 rfl m_Al_size (ztb_of k_345 rfl) (ztb_of k_314 rfl) (ztb_of k_315 rfl) d_Tr_drop_4 (Nat.le_of_ble_eq_true rfl) (Nat.le_of_ble_eq_true rfl) (Nat.le_of_ble_eq_true rfl) (Nat.le_of_ble_eq_true rfl) (alW_head hsl) (c_al_size hsl ?_)
  rw [List.length_map]
  refine zo_iconst (i := i_Tr_drop) (pc := 7) (v := 1) d_Tr_drop_7 (by decide) ?_
  refine zo_isub (i := i_Tr_drop) (pc := 8) d_Tr_drop_8 ?_
  refine zo_istore_n (i := i_Tr_drop) (pc := 9) d_Tr_drop_9 (Nat.le_of_ble_eq_true rfl) ?_
  exact loop els.length ws m (Nat.le_refl _) (hs.eq (by rw [zcur_n]))
