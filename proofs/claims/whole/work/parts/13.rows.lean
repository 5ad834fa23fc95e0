/-! The rows of the class: own addresses, neighbours, entries with an end (walks by a program, gen13.py). -/
section ZRow
theorem zHas.sub {ws cs cs' : va_W} (h : zHas ws cs) (s : cs'.Sublist cs) : zHas ws cs' := ⟨(s.map Prod.fst).nodup h.1, fun q hq => h.2 q (s.subset hq)⟩
/-- a row: its object (class rc), its list, its elements (class ec) -/
def rwW {α : Type} (g : zG) (rc ec : Nat) (v : α → List Value) (r l : Nat) (d : Option Nat) (m : Int32) (ex : List Value) (els : List (Nat × α)) : va_W :=
  (r, .inr (rc, .ref l :: ex)) :: (alW g l d m (els.map Prod.fst) ++ els.map (fun e => (e.1, .inr (ec, v e.2))))
theorem rw_head {α : Type} {g : zG} {ws R : va_W} {rc ec : Nat} {v : α → List Value} {r l : Nat} {d : Option Nat} {m : Int32} {ex : List Value} {els : List (Nat × α)} (hs : zHas ws (rwW g rc ec v r l d m ex els ++ R)) : zget ws r = some (.inr (rc, .ref l :: ex)) := hs.get (t := 0) rfl
theorem rw_open {α : Type} {g : zG} {ws R : va_W} {rc ec : Nat} {v : α → List Value} {r l : Nat} {d : Option Nat} {m : Int32} {ex : List Value} {els : List (Nat × α)} (hs : zHas ws (rwW g rc ec v r l d m ex els ++ R)) :
    zHas ws (alW g l d m (els.map Prod.fst) ++ ((r, .inr (rc, .ref l :: ex)) :: (els.map (fun e => (e.1, .inr (ec, v e.2))) ++ R))) := by
  refine hs.perm ?_
  show ((r, .inr (rc, .ref l :: ex)) :: ((alW g l d m (els.map Prod.fst) ++ els.map (fun e => (e.1, .inr (ec, v e.2)))) ++ R)).Perm _
  rw [List.append_assoc]
  exact List.perm_middle.symm
theorem rw_close {α : Type} {g : zG} {ws R : va_W} {rc ec : Nat} {v : α → List Value} {r l : Nat} {d : Option Nat} {m : Int32} {ex : List Value} {els : List (Nat × α)}
    (hs : zHas ws (alW g l d m (els.map Prod.fst) ++ ((r, .inr (rc, .ref l :: ex)) :: (els.map (fun e => (e.1, .inr (ec, v e.2))) ++ R)))) : zHas ws (rwW g rc ec v r l d m ex els ++ R) := by
  refine hs.perm ?_
  show List.Perm _ ((r, .inr (rc, .ref l :: ex)) :: ((alW g l d m (els.map Prod.fst) ++ els.map (fun e => (e.1, .inr (ec, v e.2)))) ++ R))
  rw [List.append_assoc]
  exact List.perm_middle
theorem rw_el {α : Type} {g : zG} {ws R : va_W} {rc ec : Nat} {v : α → List Value} {r l : Nat} {d : Option Nat} {m : Int32} {ex : List Value} {els : List (Nat × α)} (hs : zHas ws (rwW g rc ec v r l d m ex els ++ R)) {j : Nat} {e : Nat × α} (he : els[j]? = some e) : zget ws e.1 = some (.inr (ec, v e.2)) :=
  (rw_open hs).mem (List.mem_append_right _ (List.mem_cons_of_mem _ (List.mem_append_left _ (List.mem_map.mpr ⟨e, List.mem_of_getElem? he, rfl⟩))))
theorem rw_idx {α : Type} {els : List (Nat × α)} {j : Nat} {e : Nat × α} (he : els[j]? = some e) : (els.map Prod.fst)[j]? = some e.1 := by rw [List.getElem?_map, he]; rfl
theorem rw_all {α : Type} {els : List (Nat × α)} {R : va_W} {ec : Nat} {v : α → List Value} {q : Nat × va_E} : ∀ b ∈ els.map Prod.fst, ∃ fs, (b, .inr (ec, fs)) ∈ (q :: (els.map (fun e => (e.1, (.inr (ec, v e.2) : va_E))) ++ R)) := by
  intro b hb
  obtain ⟨e, he, rfl⟩ := List.mem_map.mp hb
  exact ⟨v e.2, List.mem_cons_of_mem _ (List.mem_append_left _ (List.mem_map.mpr ⟨e, he, rfl⟩))⟩
theorem zer_map {α β : Type} (f : α → β) : ∀ (l : List α) (j : Nat), (l.map f).eraseIdx j = (l.eraseIdx j).map f
  | [], j => rfl
  | a :: r, 0 => rfl
  | a :: r, j + 1 => by rw [List.map_cons, List.eraseIdx_cons_succ, List.eraseIdx_cons_succ, List.map_cons, zer_map f r j]
/-- an element less -/
theorem rw_less {α : Type} {g : zG} {ws R : va_W} {rc ec : Nat} {v : α → List Value} {r l : Nat} {d : Option Nat} {m : Int32} {ex : List Value} {els : List (Nat × α)} (j : Nat)
    (hs : zHas ws (alW g l d m ((els.map Prod.fst).eraseIdx j) ++ ((r, .inr (rc, .ref l :: ex)) :: (els.map (fun e => (e.1, .inr (ec, v e.2))) ++ R)))) : zHas ws (rwW g rc ec v r l d m ex (els.eraseIdx j) ++ R) := by
  refine rw_close (els := els.eraseIdx j) ?_
  rw [zer_map] at hs
  exact hs.sub ((List.Sublist.refl _).append (List.Sublist.cons₂ _ ((List.Sublist.map _ (List.eraseIdx_sublist els j)).append (List.Sublist.refl _))))
/-- an element more, that stood behind the row -/
theorem rw_more {α : Type} {g : zG} {ws R : va_W} {rc ec : Nat} {v : α → List Value} {r l : Nat} {d : Option Nat} {m : Int32} {ex : List Value} {els : List (Nat × α)} {b : Nat} {y : α}
    (hs : zHas ws (alW g l d m (els.map Prod.fst ++ [b]) ++ ((r, .inr (rc, .ref l :: ex)) :: (els.map (fun e => (e.1, .inr (ec, v e.2))) ++ ((b, .inr (ec, v y)) :: R))))) : zHas ws (rwW g rc ec v r l d m ex (els ++ [(b, y)]) ++ R) := by
  refine rw_close (els := els ++ [(b, y)]) ?_
  rw [List.map_append, List.map_append, List.append_assoc (List.map (fun e => (e.1, (.inr (ec, v e.2) : va_E))) els)]
  exact hs
def zfv {α : Type} (o : Option (Nat × α)) : Value := match o with
  | none => .null
  | some e => .ref e.1
theorem zfind_at {α : Type} {els : List α} {p : α → Bool} {i : Nat} {e : α} (hno : ∀ y ∈ els.take i, p y = false) (he : els[i]? = some e) (hp : p e = true) : els.find? p = some e := by
  obtain ⟨hlt, hge⟩ := List.getElem?_eq_some_iff.mp he
  have h1 : els = els.take i ++ e :: els.drop (i + 1) := by rw [← hge, ← List.drop_eq_getElem_cons hlt, List.take_append_drop]
  have h2 : (els.take i).find? p = none := List.find?_eq_none.mpr fun y hy => by rw [hno y hy]; decide
  rw [h1, List.find?_append, h2, Option.none_or, List.find?_cons, hp]
theorem zfind_no {α : Type} {els : List α} {p : α → Bool} {i : Nat} (hno : ∀ y ∈ els.take i, p y = false) (hi : els.length ≤ i) : els.find? p = none := by
  rw [List.take_of_length_le hi] at hno
  exact List.find?_eq_none.mpr fun y hy => by rw [hno y hy]; decide
theorem ztake_succ {α : Type} {els : List α} {p : α → Bool} {i : Nat} {e : α} (hno : ∀ y ∈ els.take i, p y = false) (he : els[i]? = some e) (hp : p e = false) : ∀ y ∈ els.take (i + 1), p y = false := by
  intro y hy
  rw [List.take_succ, he] at hy
  rcases List.mem_append.mp hy with h | h
  · exact hno y h
  · rw [List.mem_singleton.mp h]; exact hp
theorem nI_inc (i : Nat) : nI i + Int32.ofInt 1 = nI (i + 1) := nI_1 i
theorem zidx {α : Type} {els : List α} {i : Nat} (h : i < els.length) : ∃ e, els[i]? = some e := ⟨els[i], List.getElem?_eq_getElem h⟩
end ZRow
theorem c_Or_init {g : zG} {ws : va_W} {post : Option Value → va_W → Prop} {r : Nat} {R : va_W} {v1 : Value} (hs : zHas ws ((r, .inr (6, [v1])) :: R)) (k : ∀ l m w, zHas w (rwW (α := zOD) g 6 5 odV r l none m [] [] ++ R) → post none w) : zC g i_Or_init [.ref r] ws post := by
  refine zC.intro (by decide +kernel) rfl (Nat.le_of_ble_eq_true rfl) fun x hq => ?_
  refine zo_aload_n (i := i_Or_init) (pc := 0) d_Or_init_0 rfl rfl ?_
  refine zo_objInit (i := i_Or_init) (pc := 1) (ztb_of k_70 rfl) (ztb_of k_32 rfl) (ztb_of k_33 rfl) d_Or_init_1 (Nat.le_of_ble_eq_true rfl) (Nat.le_of_ble_eq_true rfl) ?_
  refine zo_aload_n (i := i_Or_init) (pc := 4) d_Or_init_4 rfl rfl ?_
  refine zh_new (i := i_Or_init) (pc := 5) 0 rfl zok_Al (ztb_of k_71 rfl) (ztb_of k_72 rfl) (ztb_of k_6 rfl) d_Or_init_5 (fs := [.null, .int 0, .int 0]) (by decide) (Nat.le_of_ble_eq_true rfl) (Nat.le_of_ble_eq_true rfl) hs fun a5 ws hs => ?_
  refine zo_dup (i := i_Or_init) (pc := 8) d_Or_init_8 rfl ?_
  refine zc_I0 (i := i_Or_init) (pc := 9) m_Al_init rfl rfl (ztb_of k_73 rfl) (ztb_of k_74 rfl) d_Or_init_9 (Nat.le_of_ble_eq_true rfl) (Nat.le_of_ble_eq_true rfl) (Nat.le_of_ble_eq_true rfl) (Nat.le_of_ble_eq_true rfl) (c_Al_init hs fun ws hs => ?_)
  refine zh_putF (i := i_Or_init) (pc := 12) 6 0 rfl zok_Or (Nat.le_of_ble_eq_true rfl) (ztb_of k_97 rfl) rfl rfl rfl d_Or_init_12 (fun _ _ _ h => h) (t_Or_ok 0 (Nat.le_of_ble_eq_true rfl)) rfl rfl hs 1 rfl (Nat.le_of_ble_eq_true rfl) fun ws hs => ?_
  refine zo_return (i := i_Or_init) (pc := 15) hq d_Or_init_15 rfl (Nat.le_of_ble_eq_true rfl) (Nat.le_of_ble_eq_true rfl) ?_
  have hs := hs.perm (List.Perm.swap _ _ _)
  exact k _ _ ws hs
theorem c_Or_length {g : zG} {ws : va_W} {post : Option Value → va_W → Prop} {r l : Nat} {d : Option Nat} {m : Int32} {els : List (Nat × zOD)} {R : va_W} (hs : zHas ws (rwW g 6 5 odV r l d m [] els ++ R)) (hx : d = none → els = []) (hl : els.length ≤ 10) (k : post (some (.int (nI els.length))) ws) : zC g i_Or_length [.ref r] ws post := by
  refine zC.intro (by decide +kernel) rfl (Nat.le_of_ble_eq_true rfl) fun x hq => ?_
  have hsl := rw_open hs
  have hxx : d = none → els.map Prod.fst = [] := fun h => by rw [hx h]; rfl
  have hll : (els.map Prod.fst).length ≤ 10 := by rw [List.length_map]; exact hl
  refine zo_aload_n (i := i_Or_length) (pc := 0) d_Or_length_0 rfl rfl ?_
  refine zo_get (i := i_Or_length) (pc := 1) 6 0 rfl zok_Or (Nat.le_of_ble_eq_true rfl) (ztb_of k_97 rfl) d_Or_length_1 (fun _ _ _ h => h) (rw_head hs) rfl ?_
  refine zc_V0 (i := i_Or_length) (pc := 4) 0 rfl m_Al_size (ztb_of k_441 rfl) (ztb_of k_314 rfl) (ztb_of k_315 rfl) d_Or_length_4 (Nat.le_of_ble_eq_true rfl) (Nat.le_of_ble_eq_true rfl) (Nat.le_of_ble_eq_true rfl) (Nat.le_of_ble_eq_true rfl) (alW_head hsl) (c_al_size hsl ?_)
  refine zo_ireturn (i := i_Or_length) (pc := 7) hq d_Or_length_7 rfl (Nat.le_of_ble_eq_true rfl) (Nat.le_of_ble_eq_true rfl) ?_
  rw [List.length_map]
  exact k
theorem c_Or_at {g : zG} {ws : va_W} {post : Option Value → va_W → Prop} {r l : Nat} {d : Option Nat} {m : Int32} {els : List (Nat × zOD)} {R : va_W} (hs : zHas ws (rwW g 6 5 odV r l d m [] els ++ R)) (hx : d = none → els = []) (hl : els.length ≤ 10) {j : Nat} {e : Nat × zOD} (he : els[j]? = some e) (k : post (some (.ref e.1)) ws) : zC g i_Or_at [.ref r, .int (nI j)] ws post := by
  refine zC.intro (by decide +kernel) rfl (Nat.le_of_ble_eq_true rfl) fun x hq => ?_
  have hsl := rw_open hs
  have hxx : d = none → els.map Prod.fst = [] := fun h => by rw [hx h]; rfl
  have hll : (els.map Prod.fst).length ≤ 10 := by rw [List.length_map]; exact hl
  refine zo_aload_n (i := i_Or_at) (pc := 0) d_Or_at_0 rfl rfl ?_
  refine zo_get (i := i_Or_at) (pc := 1) 6 0 rfl zok_Or (Nat.le_of_ble_eq_true rfl) (ztb_of k_97 rfl) d_Or_at_1 (fun _ _ _ h => h) (rw_head hs) rfl ?_
  refine zo_iload_n (i := i_Or_at) (pc := 4) d_Or_at_4 rfl ?_
  refine zc_V1 (i := i_Or_at) (pc := 5) 0 rfl m_Al_get (ztb_of k_442 rfl) (ztb_of k_318 rfl) (ztb_of k_319 rfl) d_Or_at_5 (Nat.le_of_ble_eq_true rfl) (Nat.le_of_ble_eq_true rfl) (Nat.le_of_ble_eq_true rfl) (Nat.le_of_ble_eq_true rfl) (alW_head hsl) (c_al_get hsl hxx hll (rw_idx he) ?_)
  refine zo_cast (i := i_Or_at) (pc := 8) 5 rfl d_Or_at_8 (ztb_of k_443 rfl) (ztb_of k_1161 rfl) (rw_el hs he) ?_
  refine zo_areturn (i := i_Or_at) (pc := 11) hq d_Or_at_11 rfl (.inl ⟨_, rfl⟩) (.inr ⟨_, rfl⟩) (Nat.le_of_ble_eq_true rfl) (Nat.le_of_ble_eq_true rfl) ?_
  exact k
theorem c_Or_add {g : zG} {ws : va_W} {post : Option Value → va_W → Prop} {r l : Nat} {d : Option Nat} {m : Int32} {els : List (Nat × zOD)} {R : va_W} {b : Nat} {y : zOD} (hs : zHas ws (rwW g 6 5 odV r l d m [] els ++ ((b, .inr (5, odV y)) :: R))) (hx : d = none → els = []) (hl : els.length < 10) (k : ∀ d' m' w, zHas w (rwW g 6 5 odV r l (some d') m' [] (els ++ [(b, y)]) ++ R) → post none w) : zC g i_Or_add [.ref r, .ref b] ws post := by
  refine zC.intro (by decide +kernel) rfl (Nat.le_of_ble_eq_true rfl) fun x hq => ?_
  have hsl := rw_open hs
  have hxx : d = none → els.map Prod.fst = [] := fun h => by rw [hx h]; rfl
  refine zo_aload_n (i := i_Or_add) (pc := 0) d_Or_add_0 rfl rfl ?_
  refine zo_get (i := i_Or_add) (pc := 1) 6 0 rfl zok_Or (Nat.le_of_ble_eq_true rfl) (ztb_of k_97 rfl) d_Or_add_1 (fun _ _ _ h => h) (rw_head hs) rfl ?_
  refine zo_aload_n (i := i_Or_add) (pc := 4) d_Or_add_4 rfl rfl ?_
  refine zc_V1 (i := i_Or_add) (pc := 5) 0 rfl m_Al_add (ztb_of k_195 rfl) (ztb_of k_196 rfl) (ztb_of k_197 rfl) d_Or_add_5 (Nat.le_of_ble_eq_true rfl) (Nat.le_of_ble_eq_true rfl) (Nat.le_of_ble_eq_true rfl) (Nat.le_of_ble_eq_true rfl) (alW_head hsl) (c_al_add 5 rfl (ztb_of k_1171 rfl) (List.mem_cons_of_mem _ (List.mem_append_right _ List.mem_cons_self)) hsl hxx (by rw [List.length_map]; exact hl) fun d' m' ws hs => ?_)
  refine zo_pop (i := i_Or_add) (pc := 8) d_Or_add_8 rfl ?_
  refine zo_return (i := i_Or_add) (pc := 9) hq d_Or_add_9 rfl (Nat.le_of_ble_eq_true rfl) (Nat.le_of_ble_eq_true rfl) ?_
  exact k _ _ ws (rw_more hs)
theorem c_Or_find {g : zG} {ws : va_W} {post : Option Value → va_W → Prop} {r l : Nat} {d : Option Nat} {m : Int32} {els : List (Nat × zOD)} {R : va_W} (hs : zHas ws (rwW g 6 5 odV r l d m [] els ++ R)) (hx : d = none → els = []) (hl : els.length ≤ 10) {a : Int32} (k : post (some (zfv (els.find? (fun e => decide (e.2.1 = a))))) ws) : zC g i_Or_find [.ref r, .int a] ws post := by
  refine zC.intro (by decide +kernel) rfl (Nat.le_of_ble_eq_true rfl) fun x hq => ?_
  have hsl := rw_open hs
  have hxx : d = none → els.map Prod.fst = [] := fun h => by rw [hx h]; rfl
  have hll : (els.map Prod.fst).length ≤ 10 := by rw [List.length_map]; exact hl
  have loop : ∀ (n i : Nat), i + n = els.length → (∀ y ∈ els.take i, decide (y.2.1 = a) = false) → zW x g i_Or_find 2 [some (.ref r), some (.int a), some (.int (nI i))] [] ws 0 0 := by
    intro n
    induction n with
    | zero =>
      intro i hi hno
      refine zo_iload_n (i := i_Or_find) (pc := 2) d_Or_find_2 rfl ?_
      refine zo_aload_n (i := i_Or_find) (pc := 3) d_Or_find_3 rfl rfl ?_
      refine zo_get (i := i_Or_find) (pc := 4) 6 0 rfl zok_Or (Nat.le_of_ble_eq_true rfl) (ztb_of k_97 rfl) d_Or_find_4 (fun _ _ _ h => h) (rw_head hs) rfl ?_
      refine zc_V0 (i := i_Or_find) (pc := 7) 0 rfl m_Al_size (ztb_of k_441 rfl) (ztb_of k_314 rfl) (ztb_of k_315 rfl) d_Or_find_7 (Nat.le_of_ble_eq_true rfl) (Nat.le_of_ble_eq_true rfl) (Nat.le_of_ble_eq_true rfl) (Nat.le_of_ble_eq_true rfl) (alW_head hsl) (c_al_size hsl ?_)
      refine zo_icmp_ge (i := i_Or_find) (pc := 10) (tgt := 49) d_Or_find_10 (by decide) (fun h10 => ?_) (fun h10 => False.elim (by first | exact absurd h10 (by rw [List.length_map]; exact nI_le (by omega) (by omega)) | exact absurd (by rw [List.length_map]; exact nI_le (by omega) (by omega)) h10))
      refine zo_null (i := i_Or_find) (pc := 49) d_Or_find_49 ?_
      refine zo_areturn (i := i_Or_find) (pc := 50) hq d_Or_find_50 rfl (.inl ⟨_, rfl⟩) (.inl rfl) (Nat.le_of_ble_eq_true rfl) (Nat.le_of_ble_eq_true rfl) ?_
      rw [zfind_no hno (by omega)] at k
      exact k
    | succ n ih =>
      intro i hi hno
      obtain ⟨e, he⟩ := zidx (els := els) (i := i) (by omega)
      have hse := rw_el hs he
      refine zo_iload_n (i := i_Or_find) (pc := 2) d_Or_find_2 rfl ?_
      refine zo_aload_n (i := i_Or_find) (pc := 3) d_Or_find_3 rfl rfl ?_
      refine zo_get (i := i_Or_find) (pc := 4) 6 0 rfl zok_Or (Nat.le_of_ble_eq_true rfl) (ztb_of k_97 rfl) d_Or_find_4 (fun _ _ _ h => h) (rw_head hs) rfl ?_
      refine zc_V0 (i := i_Or_find) (pc := 7) 0 rfl m_Al_size (ztb_of k_441 rfl) (ztb_of k_314 rfl) (ztb_of k_315 rfl) d_Or_find_7 (Nat.le_of_ble_eq_true rfl) (Nat.le_of_ble_eq_true rfl) (Nat.le_of_ble_eq_true rfl) (Nat.le_of_ble_eq_true rfl) (alW_head hsl) (c_al_size hsl ?_)
      refine zo_icmp_ge (i := i_Or_find) (pc := 10) (tgt := 49) d_Or_find_10 (by decide) (fun h10 => False.elim (by first | exact absurd h10 (by rw [List.length_map]; exact nI_ge (by omega) (by omega)) | exact absurd (by rw [List.length_map]; exact nI_ge (by omega) (by omega)) h10)) (fun h10 => ?_)
      refine zo_aload_n (i := i_Or_find) (pc := 13) d_Or_find_13 rfl rfl ?_
      refine zo_get (i := i_Or_find) (pc := 14) 6 0 rfl zok_Or (Nat.le_of_ble_eq_true rfl) (ztb_of k_97 rfl) d_Or_find_14 (fun _ _ _ h => h) (rw_head hs) rfl ?_
      refine zo_iload_n (i := i_Or_find) (pc := 17) d_Or_find_17 rfl ?_
      refine zc_V1 (i := i_Or_find) (pc := 18) 0 rfl m_Al_get (ztb_of k_442 rfl) (ztb_of k_318 rfl) (ztb_of k_319 rfl) d_Or_find_18 (Nat.le_of_ble_eq_true rfl) (Nat.le_of_ble_eq_true rfl) (Nat.le_of_ble_eq_true rfl) (Nat.le_of_ble_eq_true rfl) (alW_head hsl) (c_al_get hsl hxx hll (rw_idx he) ?_)
      refine zo_cast (i := i_Or_find) (pc := 21) 5 rfl d_Or_find_21 (ztb_of k_443 rfl) (ztb_of k_1161 rfl) hse ?_
      refine zo_getN (i := i_Or_find) (pc := 24) 5 0 rfl zok_Oa (Nat.le_of_ble_eq_true rfl) (ztb_of k_169 rfl) d_Or_find_24 (fun _ _ _ h => h) hse rfl ?_
      refine zo_iload_n (i := i_Or_find) (pc := 27) d_Or_find_27 rfl ?_
      refine zo_icmp_ne (i := i_Or_find) (pc := 28) (tgt := 43) d_Or_find_28 (by decide) (fun h28 => ?_) (fun h28 => ?_)
      · refine zo_iinc (i := i_Or_find) (pc := 43) (v := nI (i + 1)) d_Or_find_43 rfl (nI_inc i) (Nat.le_of_ble_eq_true rfl) ?_
        refine zo_goto (i := i_Or_find) (pc := 46) (tgt := 2) d_Or_find_46 (by decide) ?_
        exact ih (i + 1) (by omega) (ztake_succ hno he (decide_eq_false h28))
      · refine zo_aload_n (i := i_Or_find) (pc := 31) d_Or_find_31 rfl rfl ?_
        refine zo_get (i := i_Or_find) (pc := 32) 6 0 rfl zok_Or (Nat.le_of_ble_eq_true rfl) (ztb_of k_97 rfl) d_Or_find_32 (fun _ _ _ h => h) (rw_head hs) rfl ?_
        refine zo_iload_n (i := i_Or_find) (pc := 35) d_Or_find_35 rfl ?_
        refine zc_V1 (i := i_Or_find) (pc := 36) 0 rfl m_Al_get (ztb_of k_442 rfl) (ztb_of k_318 rfl) (ztb_of k_319 rfl) d_Or_find_36 (Nat.le_of_ble_eq_true rfl) (Nat.le_of_ble_eq_true rfl) (Nat.le_of_ble_eq_true rfl) (Nat.le_of_ble_eq_true rfl) (alW_head hsl) (c_al_get hsl hxx hll (rw_idx he) ?_)
        refine zo_cast (i := i_Or_find) (pc := 39) 5 rfl d_Or_find_39 (ztb_of k_443 rfl) (ztb_of k_1161 rfl) hse ?_
        refine zo_areturn (i := i_Or_find) (pc := 42) hq d_Or_find_42 rfl (.inl ⟨_, rfl⟩) (.inr ⟨_, rfl⟩) (Nat.le_of_ble_eq_true rfl) (Nat.le_of_ble_eq_true rfl) ?_
        rw [zfind_at hno he (decide_eq_true h28)] at k
        exact k
  refine zo_iconst (i := i_Or_find) (pc := 0) (v := 0) d_Or_find_0 (by decide) ?_
  refine zo_istore_n (i := i_Or_find) (pc := 1) d_Or_find_1 (Nat.le_of_ble_eq_true rfl) ?_
  exact loop els.length 0 (by omega) (fun y hy => by simp at hy)
theorem c_Nr_init {g : zG} {ws : va_W} {post : Option Value → va_W → Prop} {r : Nat} {R : va_W} {v1 : Value} (hs : zHas ws ((r, .inr (3, [v1])) :: R)) (k : ∀ l m w, zHas w (rwW (α := zND) g 3 2 ndV r l none m [] [] ++ R) → post none w) : zC g i_Nr_init [.ref r] ws post := by
  refine zC.intro (by decide +kernel) rfl (Nat.le_of_ble_eq_true rfl) fun x hq => ?_
  refine zo_aload_n (i := i_Nr_init) (pc := 0) d_Nr_init_0 rfl rfl ?_
  refine zo_objInit (i := i_Nr_init) (pc := 1) (ztb_of k_106 rfl) (ztb_of k_32 rfl) (ztb_of k_33 rfl) d_Nr_init_1 (Nat.le_of_ble_eq_true rfl) (Nat.le_of_ble_eq_true rfl) ?_
  refine zo_aload_n (i := i_Nr_init) (pc := 4) d_Nr_init_4 rfl rfl ?_
  refine zh_new (i := i_Nr_init) (pc := 5) 0 rfl zok_Al (ztb_of k_107 rfl) (ztb_of k_72 rfl) (ztb_of k_6 rfl) d_Nr_init_5 (fs := [.null, .int 0, .int 0]) (by decide) (Nat.le_of_ble_eq_true rfl) (Nat.le_of_ble_eq_true rfl) hs fun a5 ws hs => ?_
  refine zo_dup (i := i_Nr_init) (pc := 8) d_Nr_init_8 rfl ?_
  refine zc_I0 (i := i_Nr_init) (pc := 9) m_Al_init rfl rfl (ztb_of k_108 rfl) (ztb_of k_74 rfl) d_Nr_init_9 (Nat.le_of_ble_eq_true rfl) (Nat.le_of_ble_eq_true rfl) (Nat.le_of_ble_eq_true rfl) (Nat.le_of_ble_eq_true rfl) (c_Al_init hs fun ws hs => ?_)
  refine zh_putF (i := i_Nr_init) (pc := 12) 3 0 rfl zok_Nr (Nat.le_of_ble_eq_true rfl) (ztb_of k_109 rfl) rfl rfl rfl d_Nr_init_12 (fun _ _ _ h => h) (t_Nr_ok 0 (Nat.le_of_ble_eq_true rfl)) rfl rfl hs 1 rfl (Nat.le_of_ble_eq_true rfl) fun ws hs => ?_
  refine zo_return (i := i_Nr_init) (pc := 15) hq d_Nr_init_15 rfl (Nat.le_of_ble_eq_true rfl) (Nat.le_of_ble_eq_true rfl) ?_
  have hs := hs.perm (List.Perm.swap _ _ _)
  exact k _ _ ws hs
theorem c_Nr_length {g : zG} {ws : va_W} {post : Option Value → va_W → Prop} {r l : Nat} {d : Option Nat} {m : Int32} {els : List (Nat × zND)} {R : va_W} (hs : zHas ws (rwW g 3 2 ndV r l d m [] els ++ R)) (hx : d = none → els = []) (hl : els.length ≤ 10) (k : post (some (.int (nI els.length))) ws) : zC g i_Nr_length [.ref r] ws post := by
  refine zC.intro (by decide +kernel) rfl (Nat.le_of_ble_eq_true rfl) fun x hq => ?_
  have hsl := rw_open hs
  have hxx : d = none → els.map Prod.fst = [] := fun h => by rw [hx h]; rfl
  have hll : (els.map Prod.fst).length ≤ 10 := by rw [List.length_map]; exact hl
  refine zo_aload_n (i := i_Nr_length) (pc := 0) d_Nr_length_0 rfl rfl ?_
  refine zo_get (i := i_Nr_length) (pc := 1) 3 0 rfl zok_Nr (Nat.le_of_ble_eq_true rfl) (ztb_of k_109 rfl) d_Nr_length_1 (fun _ _ _ h => h) (rw_head hs) rfl ?_
  refine zc_V0 (i := i_Nr_length) (pc := 4) 0 rfl m_Al_size (ztb_of k_313 rfl) (ztb_of k_314 rfl) (ztb_of k_315 rfl) d_Nr_length_4 (Nat.le_of_ble_eq_true rfl) (Nat.le_of_ble_eq_true rfl) (Nat.le_of_ble_eq_true rfl) (Nat.le_of_ble_eq_true rfl) (alW_head hsl) (c_al_size hsl ?_)
  refine zo_ireturn (i := i_Nr_length) (pc := 7) hq d_Nr_length_7 rfl (Nat.le_of_ble_eq_true rfl) (Nat.le_of_ble_eq_true rfl) ?_
  rw [List.length_map]
  exact k
theorem c_Nr_at {g : zG} {ws : va_W} {post : Option Value → va_W → Prop} {r l : Nat} {d : Option Nat} {m : Int32} {els : List (Nat × zND)} {R : va_W} (hs : zHas ws (rwW g 3 2 ndV r l d m [] els ++ R)) (hx : d = none → els = []) (hl : els.length ≤ 10) {j : Nat} {e : Nat × zND} (he : els[j]? = some e) (k : post (some (.ref e.1)) ws) : zC g i_Nr_at [.ref r, .int (nI j)] ws post := by
  refine zC.intro (by decide +kernel) rfl (Nat.le_of_ble_eq_true rfl) fun x hq => ?_
  have hsl := rw_open hs
  have hxx : d = none → els.map Prod.fst = [] := fun h => by rw [hx h]; rfl
  have hll : (els.map Prod.fst).length ≤ 10 := by rw [List.length_map]; exact hl
  refine zo_aload_n (i := i_Nr_at) (pc := 0) d_Nr_at_0 rfl rfl ?_
  refine zo_get (i := i_Nr_at) (pc := 1) 3 0 rfl zok_Nr (Nat.le_of_ble_eq_true rfl) (ztb_of k_109 rfl) d_Nr_at_1 (fun _ _ _ h => h) (rw_head hs) rfl ?_
  refine zo_iload_n (i := i_Nr_at) (pc := 4) d_Nr_at_4 rfl ?_
  refine zc_V1 (i := i_Nr_at) (pc := 5) 0 rfl m_Al_get (ztb_of k_317 rfl) (ztb_of k_318 rfl) (ztb_of k_319 rfl) d_Nr_at_5 (Nat.le_of_ble_eq_true rfl) (Nat.le_of_ble_eq_true rfl) (Nat.le_of_ble_eq_true rfl) (Nat.le_of_ble_eq_true rfl) (alW_head hsl) (c_al_get hsl hxx hll (rw_idx he) ?_)
  refine zo_cast (i := i_Nr_at) (pc := 8) 2 rfl d_Nr_at_8 (ztb_of k_331 rfl) (ztb_of k_1159 rfl) (rw_el hs he) ?_
  refine zo_areturn (i := i_Nr_at) (pc := 11) hq d_Nr_at_11 rfl (.inl ⟨_, rfl⟩) (.inr ⟨_, rfl⟩) (Nat.le_of_ble_eq_true rfl) (Nat.le_of_ble_eq_true rfl) ?_
  exact k
theorem c_Nr_find {g : zG} {ws : va_W} {post : Option Value → va_W → Prop} {r l : Nat} {d : Option Nat} {m : Int32} {els : List (Nat × zND)} {R : va_W} (hs : zHas ws (rwW g 3 2 ndV r l d m [] els ++ R)) (hx : d = none → els = []) (hl : els.length ≤ 10) {a : Int32} (k : post (some (zfv (els.find? (fun e => decide (e.2.1 = a))))) ws) : zC g i_Nr_find [.ref r, .int a] ws post := by
  refine zC.intro (by decide +kernel) rfl (Nat.le_of_ble_eq_true rfl) fun x hq => ?_
  have hsl := rw_open hs
  have hxx : d = none → els.map Prod.fst = [] := fun h => by rw [hx h]; rfl
  have hll : (els.map Prod.fst).length ≤ 10 := by rw [List.length_map]; exact hl
  have loop : ∀ (n i : Nat), i + n = els.length → (∀ y ∈ els.take i, decide (y.2.1 = a) = false) → zW x g i_Nr_find 2 [some (.ref r), some (.int a), some (.int (nI i))] [] ws 0 0 := by
    intro n
    induction n with
    | zero =>
      intro i hi hno
      refine zo_iload_n (i := i_Nr_find) (pc := 2) d_Nr_find_2 rfl ?_
      refine zo_aload_n (i := i_Nr_find) (pc := 3) d_Nr_find_3 rfl rfl ?_
      refine zo_get (i := i_Nr_find) (pc := 4) 3 0 rfl zok_Nr (Nat.le_of_ble_eq_true rfl) (ztb_of k_109 rfl) d_Nr_find_4 (fun _ _ _ h => h) (rw_head hs) rfl ?_
      refine zc_V0 (i := i_Nr_find) (pc := 7) 0 rfl m_Al_size (ztb_of k_313 rfl) (ztb_of k_314 rfl) (ztb_of k_315 rfl) d_Nr_find_7 (Nat.le_of_ble_eq_true rfl) (Nat.le_of_ble_eq_true rfl) (Nat.le_of_ble_eq_true rfl) (Nat.le_of_ble_eq_true rfl) (alW_head hsl) (c_al_size hsl ?_)
      refine zo_icmp_ge (i := i_Nr_find) (pc := 10) (tgt := 49) d_Nr_find_10 (by decide) (fun h10 => ?_) (fun h10 => False.elim (by first | exact absurd h10 (by rw [List.length_map]; exact nI_le (by omega) (by omega)) | exact absurd (by rw [List.length_map]; exact nI_le (by omega) (by omega)) h10))
      refine zo_null (i := i_Nr_find) (pc := 49) d_Nr_find_49 ?_
      refine zo_areturn (i := i_Nr_find) (pc := 50) hq d_Nr_find_50 rfl (.inl ⟨_, rfl⟩) (.inl rfl) (Nat.le_of_ble_eq_true rfl) (Nat.le_of_ble_eq_true rfl) ?_
      rw [zfind_no hno (by omega)] at k
      exact k
    | succ n ih =>
      intro i hi hno
      obtain ⟨e, he⟩ := zidx (els := els) (i := i) (by omega)
      have hse := rw_el hs he
      refine zo_iload_n (i := i_Nr_find) (pc := 2) d_Nr_find_2 rfl ?_
      refine zo_aload_n (i := i_Nr_find) (pc := 3) d_Nr_find_3 rfl rfl ?_
      refine zo_get (i := i_Nr_find) (pc := 4) 3 0 rfl zok_Nr (Nat.le_of_ble_eq_true rfl) (ztb_of k_109 rfl) d_Nr_find_4 (fun _ _ _ h => h) (rw_head hs) rfl ?_
      refine zc_V0 (i := i_Nr_find) (pc := 7) 0 rfl m_Al_size (ztb_of k_313 rfl) (ztb_of k_314 rfl) (ztb_of k_315 rfl) d_Nr_find_7 (Nat.le_of_ble_eq_true rfl) (Nat.le_of_ble_eq_true rfl) (Nat.le_of_ble_eq_true rfl) (Nat.le_of_ble_eq_true rfl) (alW_head hsl) (c_al_size hsl ?_)
      refine zo_icmp_ge (i := i_Nr_find) (pc := 10) (tgt := 49) d_Nr_find_10 (by decide) (fun h10 => False.elim (by first | exact absurd h10 (by rw [List.length_map]; exact nI_ge (by omega) (by omega)) | exact absurd (by rw [List.length_map]; exact nI_ge (by omega) (by omega)) h10)) (fun h10 => ?_)
      refine zo_aload_n (i := i_Nr_find) (pc := 13) d_Nr_find_13 rfl rfl ?_
      refine zo_get (i := i_Nr_find) (pc := 14) 3 0 rfl zok_Nr (Nat.le_of_ble_eq_true rfl) (ztb_of k_109 rfl) d_Nr_find_14 (fun _ _ _ h => h) (rw_head hs) rfl ?_
      refine zo_iload_n (i := i_Nr_find) (pc := 17) d_Nr_find_17 rfl ?_
      refine zc_V1 (i := i_Nr_find) (pc := 18) 0 rfl m_Al_get (ztb_of k_317 rfl) (ztb_of k_318 rfl) (ztb_of k_319 rfl) d_Nr_find_18 (Nat.le_of_ble_eq_true rfl) (Nat.le_of_ble_eq_true rfl) (Nat.le_of_ble_eq_true rfl) (Nat.le_of_ble_eq_true rfl) (alW_head hsl) (c_al_get hsl hxx hll (rw_idx he) ?_)
      refine zo_cast (i := i_Nr_find) (pc := 21) 2 rfl d_Nr_find_21 (ztb_of k_331 rfl) (ztb_of k_1159 rfl) hse ?_
      refine zo_getN (i := i_Nr_find) (pc := 24) 2 0 rfl zok_Ne (Nat.le_of_ble_eq_true rfl) (ztb_of k_545 rfl) d_Nr_find_24 (fun _ _ _ h => h) hse rfl ?_
      refine zo_iload_n (i := i_Nr_find) (pc := 27) d_Nr_find_27 rfl ?_
      refine zo_icmp_ne (i := i_Nr_find) (pc := 28) (tgt := 43) d_Nr_find_28 (by decide) (fun h28 => ?_) (fun h28 => ?_)
      · refine zo_iinc (i := i_Nr_find) (pc := 43) (v := nI (i + 1)) d_Nr_find_43 rfl (nI_inc i) (Nat.le_of_ble_eq_true rfl) ?_
        refine zo_goto (i := i_Nr_find) (pc := 46) (tgt := 2) d_Nr_find_46 (by decide) ?_
        exact ih (i + 1) (by omega) (ztake_succ hno he (decide_eq_false h28))
      · refine zo_aload_n (i := i_Nr_find) (pc := 31) d_Nr_find_31 rfl rfl ?_
        refine zo_get (i := i_Nr_find) (pc := 32) 3 0 rfl zok_Nr (Nat.le_of_ble_eq_true rfl) (ztb_of k_109 rfl) d_Nr_find_32 (fun _ _ _ h => h) (rw_head hs) rfl ?_
        refine zo_iload_n (i := i_Nr_find) (pc := 35) d_Nr_find_35 rfl ?_
        refine zc_V1 (i := i_Nr_find) (pc := 36) 0 rfl m_Al_get (ztb_of k_317 rfl) (ztb_of k_318 rfl) (ztb_of k_319 rfl) d_Nr_find_36 (Nat.le_of_ble_eq_true rfl) (Nat.le_of_ble_eq_true rfl) (Nat.le_of_ble_eq_true rfl) (Nat.le_of_ble_eq_true rfl) (alW_head hsl) (c_al_get hsl hxx hll (rw_idx he) ?_)
        refine zo_cast (i := i_Nr_find) (pc := 39) 2 rfl d_Nr_find_39 (ztb_of k_331 rfl) (ztb_of k_1159 rfl) hse ?_
        refine zo_areturn (i := i_Nr_find) (pc := 42) hq d_Nr_find_42 rfl (.inl ⟨_, rfl⟩) (.inr ⟨_, rfl⟩) (Nat.le_of_ble_eq_true rfl) (Nat.le_of_ble_eq_true rfl) ?_
        rw [zfind_at hno he (decide_eq_true h28)] at k
        exact k
  refine zo_iconst (i := i_Nr_find) (pc := 0) (v := 0) d_Nr_find_0 (by decide) ?_
  refine zo_istore_n (i := i_Nr_find) (pc := 1) d_Nr_find_1 (Nat.le_of_ble_eq_true rfl) ?_
  exact loop els.length 0 (by omega) (fun y hy => by simp at hy)
theorem c_Tr_init {g : zG} {ws : va_W} {post : Option Value → va_W → Prop} {r : Nat} {R : va_W} {v1 v2 : Value} {mo : Int32} (hs : zHas ws ((r, .inr (8, [v1, v2])) :: R)) (k : ∀ l m w, zHas w (rwW (α := zTD) g 8 7 tdV r l none m [.int mo] [] ++ R) → post none w) : zC g i_Tr_init [.ref r, .int mo] ws post := by
  refine zC.intro (by decide +kernel) rfl (Nat.le_of_ble_eq_true rfl) fun x hq => ?_
  refine zo_aload_n (i := i_Tr_init) (pc := 0) d_Tr_init_0 rfl rfl ?_
  refine zo_objInit (i := i_Tr_init) (pc := 1) (ztb_of k_118 rfl) (ztb_of k_32 rfl) (ztb_of k_33 rfl) d_Tr_init_1 (Nat.le_of_ble_eq_true rfl) (Nat.le_of_ble_eq_true rfl) ?_
  refine zo_aload_n (i := i_Tr_init) (pc := 4) d_Tr_init_4 rfl rfl ?_
  refine zh_new (i := i_Tr_init) (pc := 5) 0 rfl zok_Al (ztb_of k_119 rfl) (ztb_of k_72 rfl) (ztb_of k_6 rfl) d_Tr_init_5 (fs := [.null, .int 0, .int 0]) (by decide) (Nat.le_of_ble_eq_true rfl) (Nat.le_of_ble_eq_true rfl) hs fun a5 ws hs => ?_
  refine zo_dup (i := i_Tr_init) (pc := 8) d_Tr_init_8 rfl ?_
  refine zc_I0 (i := i_Tr_init) (pc := 9) m_Al_init rfl rfl (ztb_of k_120 rfl) (ztb_of k_74 rfl) d_Tr_init_9 (Nat.le_of_ble_eq_true rfl) (Nat.le_of_ble_eq_true rfl) (Nat.le_of_ble_eq_true rfl) (Nat.le_of_ble_eq_true rfl) (c_Al_init hs fun ws hs => ?_)
  refine zh_putF (i := i_Tr_init) (pc := 12) 8 0 rfl zok_Tr (Nat.le_of_ble_eq_true rfl) (ztb_of k_121 rfl) rfl rfl rfl d_Tr_init_12 (fun _ _ _ h => h) (t_Tr_ok 0 (Nat.le_of_ble_eq_true rfl)) rfl rfl hs 1 rfl (Nat.le_of_ble_eq_true rfl) fun ws hs => ?_
  refine zo_aload_n (i := i_Tr_init) (pc := 15) d_Tr_init_15 rfl rfl ?_
  refine zo_iload_n (i := i_Tr_init) (pc := 16) d_Tr_init_16 rfl ?_
  refine zh_putF (i := i_Tr_init) (pc := 17) 8 1 rfl zok_Tr (Nat.le_of_ble_eq_true rfl) (ztb_of k_122 rfl) rfl rfl rfl d_Tr_init_17 (fun _ _ _ h => h) (t_Tr_ok 1 (Nat.le_of_ble_eq_true rfl)) rfl rfl hs 1 rfl (Nat.le_of_ble_eq_true rfl) fun ws hs => ?_
  refine zo_return (i := i_Tr_init) (pc := 20) hq d_Tr_init_20 rfl (Nat.le_of_ble_eq_true rfl) (Nat.le_of_ble_eq_true rfl) ?_
  have hs := hs.perm (List.Perm.swap _ _ _)
  exact k _ _ ws hs
theorem c_Tr_length {g : zG} {ws : va_W} {post : Option Value → va_W → Prop} {r l : Nat} {d : Option Nat} {m mo : Int32} {els : List (Nat × zTD)} {R : va_W} (hs : zHas ws (rwW g 8 7 tdV r l d m [.int mo] els ++ R)) (hx : d = none → els = []) (hl : els.length ≤ 10) (k : post (some (.int (nI els.length))) ws) : zC g i_Tr_length [.ref r] ws post := by
  refine zC.intro (by decide +kernel) rfl (Nat.le_of_ble_eq_true rfl) fun x hq => ?_
  have hsl := rw_open hs
  have hxx : d = none → els.map Prod.fst = [] := fun h => by rw [hx h]; rfl
  have hll : (els.map Prod.fst).length ≤ 10 := by rw [List.length_map]; exact hl
  refine zo_aload_n (i := i_Tr_length) (pc := 0) d_Tr_length_0 rfl rfl ?_
  refine zo_get (i := i_Tr_length) (pc := 1) 8 0 rfl zok_Tr (Nat.le_of_ble_eq_true rfl) (ztb_of k_121 rfl) d_Tr_length_1 (fun _ _ _ h => h) (rw_head hs) rfl ?_
  refine zc_V0 (i := i_Tr_length) (pc := 4) 0 rfl m_Al_size (ztb_of k_345 rfl) (ztb_of k_314 rfl) (ztb_of k_315 rfl) d_Tr_length_4 (Nat.le_of_ble_eq_true rfl) (Nat.le_of_ble_eq_true rfl) (Nat.le_of_ble_eq_true rfl) (Nat.le_of_ble_eq_true rfl) (alW_head hsl) (c_al_size hsl ?_)
  refine zo_ireturn (i := i_Tr_length) (pc := 7) hq d_Tr_length_7 rfl (Nat.le_of_ble_eq_true rfl) (Nat.le_of_ble_eq_true rfl) ?_
  rw [List.length_map]
  exact k
theorem c_Tr_at {g : zG} {ws : va_W} {post : Option Value → va_W → Prop} {r l : Nat} {d : Option Nat} {m mo : Int32} {els : List (Nat × zTD)} {R : va_W} (hs : zHas ws (rwW g 8 7 tdV r l d m [.int mo] els ++ R)) (hx : d = none → els = []) (hl : els.length ≤ 10) {j : Nat} {e : Nat × zTD} (he : els[j]? = some e) (k : post (some (.ref e.1)) ws) : zC g i_Tr_at [.ref r, .int (nI j)] ws post := by
  refine zC.intro (by decide +kernel) rfl (Nat.le_of_ble_eq_true rfl) fun x hq => ?_
  have hsl := rw_open hs
  have hxx : d = none → els.map Prod.fst = [] := fun h => by rw [hx h]; rfl
  have hll : (els.map Prod.fst).length ≤ 10 := by rw [List.length_map]; exact hl
  refine zo_aload_n (i := i_Tr_at) (pc := 0) d_Tr_at_0 rfl rfl ?_
  refine zo_get (i := i_Tr_at) (pc := 1) 8 0 rfl zok_Tr (Nat.le_of_ble_eq_true rfl) (ztb_of k_121 rfl) d_Tr_at_1 (fun _ _ _ h => h) (rw_head hs) rfl ?_
  refine zo_iload_n (i := i_Tr_at) (pc := 4) d_Tr_at_4 rfl ?_
  refine zc_V1 (i := i_Tr_at) (pc := 5) 0 rfl m_Al_get (ztb_of k_346 rfl) (ztb_of k_318 rfl) (ztb_of k_319 rfl) d_Tr_at_5 (Nat.le_of_ble_eq_true rfl) (Nat.le_of_ble_eq_true rfl) (Nat.le_of_ble_eq_true rfl) (Nat.le_of_ble_eq_true rfl) (alW_head hsl) (c_al_get hsl hxx hll (rw_idx he) ?_)
  refine zo_cast (i := i_Tr_at) (pc := 8) 7 rfl d_Tr_at_8 (ztb_of k_347 rfl) (ztb_of k_1160 rfl) (rw_el hs he) ?_
  refine zo_areturn (i := i_Tr_at) (pc := 11) hq d_Tr_at_11 rfl (.inl ⟨_, rfl⟩) (.inr ⟨_, rfl⟩) (Nat.le_of_ble_eq_true rfl) (Nat.le_of_ble_eq_true rfl) ?_
  exact k
theorem c_Tr_find {g : zG} {ws : va_W} {post : Option Value → va_W → Prop} {r l : Nat} {d : Option Nat} {m mo : Int32} {els : List (Nat × zTD)} {R : va_W} (hs : zHas ws (rwW g 8 7 tdV r l d m [.int mo] els ++ R)) (hx : d = none → els = []) (hl : els.length ≤ 10) {a : Int32} (k : post (some (zfv (els.find? (fun e => decide (e.2.1 = a))))) ws) : zC g i_Tr_find [.ref r, .int a] ws post := by
  refine zC.intro (by decide +kernel) rfl (Nat.le_of_ble_eq_true rfl) fun x hq => ?_
  have hsl := rw_open hs
  have hxx : d = none → els.map Prod.fst = [] := fun h => by rw [hx h]; rfl
  have hll : (els.map Prod.fst).length ≤ 10 := by rw [List.length_map]; exact hl
  have loop : ∀ (n i : Nat), i + n = els.length → (∀ y ∈ els.take i, decide (y.2.1 = a) = false) → zW x g i_Tr_find 2 [some (.ref r), some (.int a), some (.int (nI i))] [] ws 0 0 := by
    intro n
    induction n with
    | zero =>
      intro i hi hno
      refine zo_iload_n (i := i_Tr_find) (pc := 2) d_Tr_find_2 rfl ?_
      refine zo_aload_n (i := i_Tr_find) (pc := 3) d_Tr_find_3 rfl rfl ?_
      refine zo_get (i := i_Tr_find) (pc := 4) 8 0 rfl zok_Tr (Nat.le_of_ble_eq_true rfl) (ztb_of k_121 rfl) d_Tr_find_4 (fun _ _ _ h => h) (rw_head hs) rfl ?_
      refine zc_V0 (i := i_Tr_find) (pc := 7) 0 rfl m_Al_size (ztb_of k_345 rfl) (ztb_of k_314 rfl) (ztb_of k_315 rfl) d_Tr_find_7 (Nat.le_of_ble_eq_true rfl) (Nat.le_of_ble_eq_true rfl) (Nat.le_of_ble_eq_true rfl) (Nat.le_of_ble_eq_true rfl) (alW_head hsl) (c_al_size hsl ?_)
      refine zo_icmp_ge (i := i_Tr_find) (pc := 10) (tgt := 49) d_Tr_find_10 (by decide) (fun h10 => ?_) (fun h10 => False.elim (by first | exact absurd h10 (by rw [List.length_map]; exact nI_le (by omega) (by omega)) | exact absurd (by rw [List.length_map]; exact nI_le (by omega) (by omega)) h10))
      refine zo_null (i := i_Tr_find) (pc := 49) d_Tr_find_49 ?_
      refine zo_areturn (i := i_Tr_find) (pc := 50) hq d_Tr_find_50 rfl (.inl ⟨_, rfl⟩) (.inl rfl) (Nat.le_of_ble_eq_true rfl) (Nat.le_of_ble_eq_true rfl) ?_
      rw [zfind_no hno (by omega)] at k
      exact k
    | succ n ih =>
      intro i hi hno
      obtain ⟨e, he⟩ := zidx (els := els) (i := i) (by omega)
      have hse := rw_el hs he
      refine zo_iload_n (i := i_Tr_find) (pc := 2) d_Tr_find_2 rfl ?_
      refine zo_aload_n (i := i_Tr_find) (pc := 3) d_Tr_find_3 rfl rfl ?_
      refine zo_get (i := i_Tr_find) (pc := 4) 8 0 rfl zok_Tr (Nat.le_of_ble_eq_true rfl) (ztb_of k_121 rfl) d_Tr_find_4 (fun _ _ _ h => h) (rw_head hs) rfl ?_
      refine zc_V0 (i := i_Tr_find) (pc := 7) 0 rfl m_Al_size (ztb_of k_345 rfl) (ztb_of k_314 rfl) (ztb_of k_315 rfl) d_Tr_find_7 (Nat.le_of_ble_eq_true rfl) (Nat.le_of_ble_eq_true rfl) (Nat.le_of_ble_eq_true rfl) (Nat.le_of_ble_eq_true rfl) (alW_head hsl) (c_al_size hsl ?_)
      refine zo_icmp_ge (i := i_Tr_find) (pc := 10) (tgt := 49) d_Tr_find_10 (by decide) (fun h10 => False.elim (by first | exact absurd h10 (by rw [List.length_map]; exact nI_ge (by omega) (by omega)) | exact absurd (by rw [List.length_map]; exact nI_ge (by omega) (by omega)) h10)) (fun h10 => ?_)
      refine zo_aload_n (i := i_Tr_find) (pc := 13) d_Tr_find_13 rfl rfl ?_
      refine zo_get (i := i_Tr_find) (pc := 14) 8 0 rfl zok_Tr (Nat.le_of_ble_eq_true rfl) (ztb_of k_121 rfl) d_Tr_find_14 (fun _ _ _ h => h) (rw_head hs) rfl ?_
      refine zo_iload_n (i := i_Tr_find) (pc := 17) d_Tr_find_17 rfl ?_
      refine zc_V1 (i := i_Tr_find) (pc := 18) 0 rfl m_Al_get (ztb_of k_346 rfl) (ztb_of k_318 rfl) (ztb_of k_319 rfl) d_Tr_find_18 (Nat.le_of_ble_eq_true rfl) (Nat.le_of_ble_eq_true rfl) (Nat.le_of_ble_eq_true rfl) (Nat.le_of_ble_eq_true rfl) (alW_head hsl) (c_al_get hsl hxx hll (rw_idx he) ?_)
      refine zo_cast (i := i_Tr_find) (pc := 21) 7 rfl d_Tr_find_21 (ztb_of k_347 rfl) (ztb_of k_1160 rfl) hse ?_
      refine zo_getN (i := i_Tr_find) (pc := 24) 7 0 rfl zok_Ti (Nat.le_of_ble_eq_true rfl) (ztb_of k_607 rfl) d_Tr_find_24 (fun _ _ _ h => h) hse rfl ?_
      refine zo_iload_n (i := i_Tr_find) (pc := 27) d_Tr_find_27 rfl ?_
      refine zo_icmp_ne (i := i_Tr_find) (pc := 28) (tgt := 43) d_Tr_find_28 (by decide) (fun h28 => ?_) (fun h28 => ?_)
      · refine zo_iinc (i := i_Tr_find) (pc := 43) (v := nI (i + 1)) d_Tr_find_43 rfl (nI_inc i) (Nat.le_of_ble_eq_true rfl) ?_
        refine zo_goto (i := i_Tr_find) (pc := 46) (tgt := 2) d_Tr_find_46 (by decide) ?_
        exact ih (i + 1) (by omega) (ztake_succ hno he (decide_eq_false h28))
      · refine zo_aload_n (i := i_Tr_find) (pc := 31) d_Tr_find_31 rfl rfl ?_
        refine zo_get (i := i_Tr_find) (pc := 32) 8 0 rfl zok_Tr (Nat.le_of_ble_eq_true rfl) (ztb_of k_121 rfl) d_Tr_find_32 (fun _ _ _ h => h) (rw_head hs) rfl ?_
        refine zo_iload_n (i := i_Tr_find) (pc := 35) d_Tr_find_35 rfl ?_
        refine zc_V1 (i := i_Tr_find) (pc := 36) 0 rfl m_Al_get (ztb_of k_346 rfl) (ztb_of k_318 rfl) (ztb_of k_319 rfl) d_Tr_find_36 (Nat.le_of_ble_eq_true rfl) (Nat.le_of_ble_eq_true rfl) (Nat.le_of_ble_eq_true rfl) (Nat.le_of_ble_eq_true rfl) (alW_head hsl) (c_al_get hsl hxx hll (rw_idx he) ?_)
        refine zo_cast (i := i_Tr_find) (pc := 39) 7 rfl d_Tr_find_39 (ztb_of k_347 rfl) (ztb_of k_1160 rfl) hse ?_
        refine zo_areturn (i := i_Tr_find) (pc := 42) hq d_Tr_find_42 rfl (.inl ⟨_, rfl⟩) (.inr ⟨_, rfl⟩) (Nat.le_of_ble_eq_true rfl) (Nat.le_of_ble_eq_true rfl) ?_
        rw [zfind_at hno he (decide_eq_true h28)] at k
        exact k
  refine zo_iconst (i := i_Tr_find) (pc := 0) (v := 0) d_Tr_find_0 (by decide) ?_
  refine zo_istore_n (i := i_Tr_find) (pc := 1) d_Tr_find_1 (Nat.le_of_ble_eq_true rfl) ?_
  exact loop els.length 0 (by omega) (fun y hy => by simp at hy)
