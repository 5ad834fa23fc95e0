/-! Base: a world is a list of cells by address; a method's walk and its contract in one short form. -/
section ZWorld
/-- what stands at an address -/
def zget (ws : va_W) (a : Nat) : Option va_E := (ws.find? (fun q => q.1 == a)).map Prod.snd
/-- the world with another entry at an address -/
def zset (ws : va_W) (a : Nat) (e : va_E) : va_W := ws.map (fun q => if q.1 = a then (a, e) else q)
/-- the world with one cell more -/
def zpush (ws : va_W) (a : Nat) (e : va_E) : va_W := ws ++ [(a, e)]
theorem zget_nil (a : Nat) : zget [] a = none := rfl
theorem zget_cons (q : Nat × va_E) (ws : va_W) (a : Nat) : zget (q :: ws) a = if q.1 = a then some q.2 else zget ws a := by
  unfold zget
  rw [List.find?_cons]
  by_cases h : q.1 = a
  · rw [if_pos h, beq_iff_eq.mpr h]; rfl
  · rw [if_neg h, beq_eq_false_iff_ne.mpr h]
theorem zset_nil (a : Nat) (e : va_E) : zset [] a e = [] := rfl
theorem zset_cons (q : Nat × va_E) (ws : va_W) (a : Nat) (e : va_E) : zset (q :: ws) a e = (if q.1 = a then (a, e) else q) :: zset ws a e := rfl
theorem zget_set_ne {ws : va_W} {a b : Nat} {e : va_E} (h : b ≠ a) : zget (zset ws a e) b = zget ws b := by
  induction ws with
  | nil => rfl
  | cons q r ih =>
    rw [zset_cons, zget_cons, zget_cons, ih]
    by_cases hq : q.1 = a
    · rw [if_pos hq, if_neg (fun k : a = b => h k.symm), if_neg (fun k : q.1 = b => h (k.symm.trans hq))]
    · rw [if_neg hq]
theorem zget_set_eq {ws : va_W} {a : Nat} {e e0 : va_E} (h : zget ws a = some e0) : zget (zset ws a e) a = some e := by
  induction ws with
  | nil => cases h
  | cons q r ih =>
    rw [zget_cons] at h
    rw [zset_cons, zget_cons]
    by_cases hq : q.1 = a
    · rw [if_pos hq, if_pos rfl]
    · rw [if_neg hq] at h ⊢
      rw [if_neg hq]
      exact ih h
theorem zget_push {ws : va_W} {a b : Nat} {e : va_E} : zget (zpush ws a e) b = (zget ws b).or (if a = b then some e else none) := by
  unfold zpush
  induction ws with
  | nil =>
    show zget [(a, e)] b = _
    rw [zget_cons, zget_nil]
    by_cases h : a = b <;> simp [h]
  | cons q r ih =>
    rw [List.cons_append, zget_cons, zget_cons, ih]
    by_cases hq : q.1 = b
    · rw [if_pos hq, if_pos hq]; rfl
    · rw [if_neg hq, if_neg hq]
theorem zget_push_old {ws : va_W} {a b : Nat} {e e0 : va_E} (h : zget ws b = some e0) : zget (zpush ws a e) b = some e0 := by
  rw [zget_push, h]; rfl
theorem zget_push_new {ws : va_W} {a : Nat} {e : va_E} (h : zget ws a = none) : zget (zpush ws a e) a = some e := by
  rw [zget_push, h, if_pos rfl]; rfl
theorem zget_push_ne {ws : va_W} {a b : Nat} {e : va_E} (h : a ≠ b) : zget (zpush ws a e) b = zget ws b := by
  rw [zget_push, if_neg h, Option.or_none]
theorem zget_ne {ws : va_W} {a b : Nat} {e : va_E} (h : zget ws a = none) (hb : zget ws b = some e) : b ≠ a := fun k => by rw [k, h] at hb; cases hb
theorem zset_id {ws : va_W} {a : Nat} {e : va_E} (h : zget ws a = some e) (hn : (ws.map Prod.fst).Nodup) : zset ws a e = ws := by
  induction ws with
  | nil => rfl
  | cons q r ih =>
    rw [zset_cons]
    rw [zget_cons] at h
    rw [List.map_cons, List.nodup_cons] at hn
    by_cases hq : q.1 = a
    · rw [if_pos hq] at h ⊢
      have e1 : q = (a, e) := by cases h; rw [← hq]
      have : zset r a e = r := by
        unfold zset
        refine (List.map_congr_left fun z hz => ?_).trans (List.map_id r)
        rw [if_neg (fun k : z.1 = a => hn.1 (by rw [hq, ← k]; exact List.mem_map.mpr ⟨z, hz, rfl⟩))]
        rfl
      rw [this, e1]
    · rw [if_neg hq] at h ⊢
      rw [ih h hn.2]
theorem zget_idx {ws : va_W} {a : Nat} {e : va_E} (h : zget ws a = some e) : ∃ k : Nat, ws[k]? = some (a, e) := by
  induction ws with
  | nil => cases h
  | cons q r ih =>
    rw [zget_cons] at h
    by_cases hq : q.1 = a
    · rw [if_pos hq] at h
      exact ⟨0, by rw [List.getElem?_cons_zero]; cases h; rw [← hq]⟩
    · rw [if_neg hq] at h
      obtain ⟨k, hk⟩ := ih h
      exact ⟨k + 1, by rw [List.getElem?_cons_succ]; exact hk⟩
theorem zget_none {ws : va_W} {a : Nat} (h : ∀ (k : Nat) (q : Nat × va_E), ws[k]? = some q → q.1 ≠ a) : zget ws a = none := by
  cases hg : zget ws a with
  | none => rfl
  | some e =>
    obtain ⟨k, hk⟩ := zget_idx hg
    exact absurd rfl (h k _ hk)
theorem zset_idx {A : Nat → Prop} {ws : va_W} (hD : va_D A ws) {k a : Nat} {e e0 : va_E} (hk : ws[k]? = some (a, e0)) : ws.set k (a, e) = zset ws a e := by
  refine List.ext_getElem? fun j => ?_
  unfold zset
  rw [List.getElem?_map, List.getElem?_set]
  have hlt : k < ws.length := (List.getElem?_eq_some_iff.mp hk).1
  by_cases hj : k = j
  · subst hj
    rw [if_pos rfl, if_pos hlt, hk]
    show some (a, e) = some (if a = a then (a, e) else (a, e0))
    rw [if_pos rfl]
  · rw [if_neg hj]
    cases hx : ws[j]? with
    | none => rfl
    | some q =>
      show some q = some (if q.1 = a then (a, e) else q)
      rw [if_neg (fun h : q.1 = a => hj (hD.1 k j (a, e0) q hk hx h.symm))]
end ZWorld
section ZHas
/-- the world holds these cells, apart -/
def zHas (ws : va_W) (cs : va_W) : Prop := (cs.map Prod.fst).Nodup ∧ ∀ q ∈ cs, zget ws q.1 = some q.2
theorem zHas.get {ws cs : va_W} (h : zHas ws cs) {t a : Nat} {e : va_E} (ht : cs[t]? = some (a, e)) : zget ws a = some e := h.2 (a, e) (List.mem_of_getElem? ht)
theorem zHas.mem {ws cs : va_W} (h : zHas ws cs) {a : Nat} {e : va_E} (ht : (a, e) ∈ cs) : zget ws a = some e := h.2 (a, e) ht
theorem zset_map : ∀ (cs : va_W) (t a : Nat) (e e0 : va_E), cs[t]? = some (a, e0) → (cs.set t (a, e)).map Prod.fst = cs.map Prod.fst
  | [], t, a, e, e0, h => by simp at h
  | q :: r, 0, a, e, e0, h => by
    rw [List.getElem?_cons_zero] at h
    cases h
    rfl
  | q :: r, t + 1, a, e, e0, h => by
    rw [List.getElem?_cons_succ] at h
    rw [List.set_cons_succ, List.map_cons, List.map_cons, zset_map r t a e e0 h]
theorem zHas.put {ws cs : va_W} (h : zHas ws cs) {t a : Nat} {e e0 : va_E} (ht : cs[t]? = some (a, e0)) : zHas (zset ws a e) (cs.set t (a, e)) := by
  refine ⟨by rw [zset_map cs t a e e0 ht]; exact h.1, fun q hq => ?_⟩
  obtain ⟨j, hj⟩ := List.mem_iff_getElem?.mp hq
  rw [List.getElem?_set] at hj
  by_cases htj : t = j
  · rw [if_pos htj] at hj
    have hlt : t < cs.length := (List.getElem?_eq_some_iff.mp ht).1
    rw [if_pos hlt] at hj
    cases hj
    exact zget_set_eq (h.get ht)
  · rw [if_neg htj] at hj
    have hne : q.1 ≠ a := by
      intro e1
      have h1 : (cs.map Prod.fst)[j]? = some a := by rw [List.getElem?_map, hj]; exact congrArg some e1
      have h2 : (cs.map Prod.fst)[t]? = some a := by rw [List.getElem?_map, ht]; rfl
      obtain ⟨l1, g1⟩ := List.getElem?_eq_some_iff.mp h1
      obtain ⟨l2, g2⟩ := List.getElem?_eq_some_iff.mp h2
      have hp := List.pairwise_iff_getElem.mp h.1
      rcases Nat.lt_or_ge t j with k | k
      · exact hp t j l2 l1 k (g2.trans g1.symm)
      · exact hp j t l1 l2 (by omega) (g1.trans g2.symm)
    rw [zget_set_ne hne]
    exact h.2 q (List.mem_of_getElem? hj)
theorem zHas.new {ws cs : va_W} (h : zHas ws cs) {a : Nat} (ha : zget ws a = none) (e : va_E) : zHas (zpush ws a e) ((a, e) :: cs) := by
  refine ⟨?_, fun q hq => ?_⟩
  · rw [List.map_cons, List.nodup_cons]
    refine ⟨fun k => ?_, h.1⟩
    obtain ⟨q, hq, e1⟩ := List.mem_map.mp k
    have := h.2 q hq
    rw [e1, ha] at this
    cases this
  · rcases List.mem_cons.mp hq with rfl | k
    · exact zget_push_new ha
    · exact zget_push_old (h.2 q k)
theorem zHas.perm {ws cs cs' : va_W} (h : zHas ws cs) (p : cs.Perm cs') : zHas ws cs' := ⟨(p.map Prod.fst).nodup_iff.mp h.1, fun q hq => h.2 q (p.mem_iff.mpr hq)⟩
theorem zHas.swap {ws a b : va_W} (h : zHas ws (a ++ b)) : zHas ws (b ++ a) := h.perm List.perm_append_comm
theorem zHas.right {ws a b : va_W} (h : zHas ws (a ++ b)) : zHas ws b := by
  obtain ⟨h1, h2⟩ := h
  rw [List.map_append, List.nodup_append] at h1
  exact ⟨h1.2.1, fun q hq => h2 q (List.mem_append_right _ hq)⟩
theorem zHas.left {ws a b : va_W} (h : zHas ws (a ++ b)) : zHas ws a := h.swap.right
theorem zHas.tail {ws b : va_W} {q : Nat × va_E} (h : zHas ws (q :: b)) : zHas ws b := zHas.right (a := [q]) h
theorem zHas.eq {ws a b : va_W} (h : zHas ws a) (e : a = b) : zHas ws b := e ▸ h
theorem zHas.mid {ws a b c : va_W} (h : zHas ws (a ++ (b ++ c))) : zHas ws (b ++ (a ++ c)) := h.perm (List.perm_append_comm_assoc _ _ _)
/-- by components -/
theorem zpick_perm : ∀ (cs : List va_W) (k : Nat) (c : va_W), cs[k]? = some c → (cs.flatten).Perm (c ++ (cs.eraseIdx k).flatten)
  | [], k, c, h => by simp at h
  | d :: r, 0, c, h => by
    rw [List.getElem?_cons_zero] at h
    cases h
    exact List.Perm.refl _
  | d :: r, k + 1, c, h => by
    rw [List.getElem?_cons_succ] at h
    rw [List.eraseIdx_cons_succ, List.flatten_cons, List.flatten_cons]
    exact (List.Perm.append_left d (zpick_perm r k c h)).trans (List.perm_append_comm_assoc _ _ _)
theorem zback_perm : ∀ (cs : List va_W) (k : Nat) (c d : va_W), cs[k]? = some d → (c ++ (cs.eraseIdx k).flatten).Perm ((cs.set k c).flatten)
  | [], k, c, d, h => by simp at h
  | e :: r, 0, c, d, h => List.Perm.refl _
  | e :: r, k + 1, c, d, h => by
    rw [List.getElem?_cons_succ] at h
    rw [List.eraseIdx_cons_succ, List.set_cons_succ, List.flatten_cons, List.flatten_cons]
    exact (List.perm_append_comm_assoc _ _ _).trans (List.Perm.append_left e (zback_perm r k c d h))
theorem zHas.pick {ws : va_W} {cs : List va_W} (h : zHas ws cs.flatten) (k : Nat) {c : va_W} (hk : cs[k]? = some c) : zHas ws (c ++ (cs.eraseIdx k).flatten) := h.perm (zpick_perm cs k c hk)
theorem zHas.back {ws : va_W} {cs : List va_W} (k : Nat) {c d : va_W} (hk : cs[k]? = some d) (h : zHas ws (c ++ (cs.eraseIdx k).flatten)) : zHas ws (cs.set k c).flatten := h.perm (zback_perm cs k c d hk)
end ZHas
section ZTables
/-- words that stay true as the tables warm -/
def zk_nest : Cond → Bool
  | .fieldLinkNest .. => true
  | .methodLinkNest .. => true
  | .castable .. => true
  | .declares _ => true
  | .arrayOver (.object _) => true
  | _ => false
theorem zk_over {ty : FieldType} {s U : State} {A : Array Value} (h2 : zk_nest (.arrayOver ty) = true) (hvm : s.vm.Alike U.vm) (h : (Cond.arrayOver ty).before #[] s = true) : (Cond.arrayOver ty).before A U = true := by
  cases ty <;> first | exact va_AO.moved hvm h | (simp [zk_nest] at h2; done)
def zk_ok (w : Cond) : Bool := goodWord w || zk_nest w
theorem zk_warm {w : Cond} {s U : State} (hW : s.WarmedH U.vm) (hk : zk_ok w = true) (h : w.before #[] s = true) : w.before #[] U = true := by
  rw [zk_ok, Bool.or_eq_true] at hk
  by_cases hg : goodWord w = true
  · exact word_at hW (good_of_word hg) h
  · have h2 : zk_nest w = true := hk.resolve_left hg
    cases w <;> first | exact va_Nw.warmF hW h | exact va_Nw.warmM hW h | exact va_Nw.warmC hW h | exact va_Nw.warmD hW h | exact zk_over h2 hW.alike h | (simp [zk_nest] at h2; done)
theorem zk_at {w : Cond} {s U : State} (hs : s.vm = U.vm) (hk : zk_ok w = true) (h : w.before #[] s = true) (A : Array Value) : w.before A U = true := by
  rw [zk_ok, Bool.or_eq_true] at hk
  by_cases hg : goodWord w = true
  · exact word_at (by rw [← hs]; exact State.WarmedH.refl s) (good_of_word hg) h
  · have h2 : zk_nest w = true := hk.resolve_left hg
    cases w <;> first | exact va_tabs rfl hs h | exact zk_over h2 (by rw [← hs]; exact Vm.Alike.refl s.vm) h | (simp [zk_nest] at h2; done)
def ztb : List Cond := lw_tbl.filter zk_ok
theorem ztb_of {w : Cond} (h : w ∈ tables_1) (hk : zk_ok w = true) : w ∈ ztb := List.mem_filter.mpr ⟨List.mem_append_right _ h, hk⟩
theorem ztb_sel {q : MethodName × Nat} (h : q ∈ lw_privs) : Cond.selects q.1.cls q.1 q.1 ∈ ztb := List.mem_filter.mpr ⟨List.mem_append_left _ (List.mem_map.mpr ⟨q, h, rfl⟩), rfl⟩
/-- the classes of arrays of int, of Object, of long, of boolean; the address of ArrayList's empty row -/
abbrev zK : Type := ClassId × ClassId × ClassId × ClassId × Nat
abbrev ztys (K : zK) : List (ClassId × FieldType) := [(K.1, .int), (K.2.1, .object "java/lang/Object"), (K.2.2.1, .long), (K.2.2.2.1, .boolean)]
/-- what the tables say at a state -/
def zT (D : va_G) (K : zK) (U : State) : Prop := (∀ w ∈ ztb, w.before #[] U = true) ∧ va_K D zcl (ztys K) U
theorem zT.warm {D : va_G} {K : zK} {s U : State} (h : zT D K s) (hW : s.WarmedH U.vm) : zT D K U :=
  ⟨fun w hw => zk_warm hW (List.mem_filter.mp hw).2 (h.1 w hw), va_K.moved hW.alike h.2⟩
theorem zT.same {D : va_G} {K : zK} {s U : State} (h : zT D K s) (hs : s.vm = U.vm) : zT D K U :=
  ⟨fun w hw => zk_at hs (List.mem_filter.mp hw).2 (h.1 w hw) _, va_K.moved (by rw [← hs]; exact Vm.Alike.refl s.vm) h.2⟩
theorem zT.hts {D : va_G} {K : zK} {s : State} (h : zT D K s) (args : Array Value) : ∀ w ∈ ztb, w.before args s = true := fun w hw => zk_at rfl (List.mem_filter.mp hw).2 (h.1 w hw) args
/-- a static field of Throwable that holds a reference: not ours to write -/
def zSt (n d : String) (A : Nat → Prop) (U : State) (H : Heap) : Prop := ∃ (c : ClassId) (k : Class) (i : Nat) (f : Field) (a : Nat) (cell : Cell) (v : Value), U.vm.findClass "java/lang/Throwable" = some c ∧ U.fieldFound? "java/lang/Throwable" n d = some (c, k, i, f) ∧ f.isStatic = true ∧ k.statics = some a ∧ k.staticTypes[f.slot]? = some f.type ∧ H[a]? = some cell ∧ cell.vm.isStatics = true ∧ cell.cls = c ∧ f.slot < cell.slots.size ∧ cell.slots[f.slot]? = some v ∧ v.isRef = true ∧ ¬ A a
theorem zSt.moved {n d : String} {A : Nat → Prop} {u U : State} {H : Heap} (hvm : u.vm.Alike U.vm) (h : zSt n d A u H) : zSt n d A U H := by
  obtain ⟨c, k, i, f, a, cell, v, h0, h1, h2, h3, h4, h5⟩ := h
  obtain ⟨k', hi', he⟩ := State.fieldFound?_setVm hvm h1
  exact ⟨c, k', i, f, a, cell, v, by rw [hvm.findClass]; exact h0, hi', h2, by rw [he]; exact h3, by rw [he]; exact h4, h5⟩
theorem zSt.kept {n d : String} {A : Nat → Prop} {U : State} {H H1 : Heap} (h : zSt n d A U H) (hq : ∀ a : Nat, a < H.size → ¬ A a → H1[a]? = H[a]?) : zSt n d A U H1 := by
  obtain ⟨c, k, i, f, a, cell, v, h0, h1, h2, h3, h4, h5, h6, h7, h8, h9, h10, h11⟩ := h
  exact ⟨c, k, i, f, a, cell, v, h0, h1, h2, h3, h4, by rw [hq a (Array.getElem?_eq_some_iff.mp h5).1 h11]; exact h5, h6, h7, h8, h9, h10, h11⟩
theorem zSt.narrow {n d : String} {A B : Nat → Prop} {U : State} {H : Heap} (h : zSt n d A U H) (hAB : ∀ q, B q → A q) : zSt n d B U H := by
  obtain ⟨c, k, i, f, a, cell, v, h0, h1, h2, h3, h4, h5, h6, h7, h8, h9, h10, h11⟩ := h
  exact ⟨c, k, i, f, a, cell, v, h0, h1, h2, h3, h4, h5, h6, h7, h8, h9, h10, fun z => h11 (hAB a z)⟩
theorem zSt.lays {n d : String} {A : Nat → Prop} {U : State} {args : Array Value} (h : zSt n d A U U.heap) : (Cond.laysStatic "java/lang/Throwable" n d).before args U = true := by
  obtain ⟨c, k, i, f, a, cell, v, h0, h1, h2, h3, h4, h5, h6, h7, h8, h9, h10, h11⟩ := h
  simp [Cond.before, Cond.holds, Cond.value, h0, h1, h2, h3, h4, h5, h6, h7, h8]
theorem zSt.isr {n d : String} {A : Nat → Prop} {U : State} {args : Array Value} (h : zSt n d A U U.heap) : (Cond.isRef (.static "java/lang/Throwable" n d)).before args U = true := by
  obtain ⟨c, k, i, f, a, cell, v, h0, h1, h2, h3, h4, h5, h6, h7, h8, h9, h10, h11⟩ := h
  have e : (Term.static "java/lang/Throwable" n d).eval args U none [] U = some v := by simp [Term.eval, State.fieldNamed?, h1, h2, h3, h5, h6, h9]
  cases v <;> first | (simp [Cond.before, Cond.holds, Cond.value, e]; done) | (simp [Value.isRef] at h10; done)
theorem zSt.of {n d : String} {A : Nat → Prop} {s : State} {args : Array Value} (hl : (Cond.laysStatic "java/lang/Throwable" n d).before args s = true) (hr : (Cond.isRef (.static "java/lang/Throwable" n d)).before args s = true) (hA : ∀ a : Nat, a < s.heap.size → ¬ A a) : zSt n d A s s.heap := by
  obtain ⟨c, k, i, f, a, cell, hc, hi, hst, ha, hcell, hs, hcls, hlt, hty⟩ := Cond.laysStatic_spec hl
  obtain ⟨v, hv, hvr⟩ := Cond.isRef_spec hr
  obtain ⟨hst', a', cell', ha', hcell', -, hslot⟩ := Term.static_spec hi hv
  cases ha.symm.trans ha'
  cases hcell.symm.trans hcell'
  exact ⟨c, k, i, f, a, cell, v, hc, hi, hst, ha, hty, hcell, hs, hcls, hlt, hslot, hvr, hA a (Array.getElem?_eq_some_iff.mp hcell).1⟩
/-- the strings of the class's refusals, by their places -/
def zstr : List (Nat × String) := [(195, "there are six headers"), (267, "an argument is out of its range"), (272, "there is none with this index"), (275, "the host is down")]
def zStr (U : State) : Prop := ∀ q ∈ zstr, ∃ a : Nat, vk_R "LinkHost" q.1 q.2 a U
/-- the one refusal is not the other -/
def zNC (U : State) : Prop := ∃ a b : ClassId, U.vm.findClass "java/lang/IllegalStateException" = some a ∧ U.vm.findClass "java/lang/IllegalArgumentException" = some b ∧ U.vm.assignable a b = false
theorem zNC.moved {u U : State} (hvm : u.vm.Alike U.vm) (h : zNC u) : zNC U := by
  obtain ⟨a, b, h1, h2, h3⟩ := h
  exact ⟨a, b, by rw [hvm.findClass]; exact h1, by rw [hvm.findClass]; exact h2, by rw [hvm.assignable]; exact h3⟩
/-- what throwing needs beside the words -/
def zV (A : Nat → Prop) (U : State) (H : Heap) : Prop := zSt "UNASSIGNED_STACK" "[Ljava/lang/StackTraceElement;" A U H ∧ zSt "SUPPRESSED_SENTINEL" "Ljava/util/List;" A U H ∧ zStr U ∧ zNC U
/-- the empty row that ArrayList's new objects share: not ours to write -/
def zE (K : zK) (A : Nat → Prop) (U : State) (H : Heap) : Prop := va_Z "java/util/ArrayList" "DEFAULTCAPACITY_EMPTY_ELEMENTDATA" "[Ljava/lang/Object;" (.ref K.2.2.2.2) A U H ∧ va_T (.object "java/lang/Object") K.2.2.2.2 0 (fun _ => .null) A U H ∧ zV A U H
theorem zE.warm {K : zK} {A : Nat → Prop} {u U : State} {H : Heap} (hW : u.WarmedH U.vm) (h : zE K A u H) : zE K A U H :=
  ⟨h.1.moved hW.alike, h.2.1.moved hW.alike, h.2.2.1.moved hW.alike, h.2.2.2.1.moved hW.alike, fun q hq => by obtain ⟨a, ha⟩ := h.2.2.2.2.1 q hq; exact ⟨a, ha.warm hW⟩, h.2.2.2.2.2.moved hW.alike⟩
theorem zE.same {K : zK} {A : Nat → Prop} {u U : State} {H : Heap} (hs : u.vm = U.vm) (h : zE K A u H) : zE K A U H := by
  have hvm : u.vm.Alike U.vm := by rw [← hs]; exact Vm.Alike.refl u.vm
  exact ⟨h.1.moved hvm, h.2.1.moved hvm, h.2.2.1.moved hvm, h.2.2.2.1.moved hvm, fun q hq => by obtain ⟨a, ha⟩ := h.2.2.2.2.1 q hq; exact ⟨a, ha.same hs.symm⟩, h.2.2.2.2.2.moved hvm⟩
theorem zE.kept {K : zK} {A : Nat → Prop} {U : State} {H H1 : Heap} (h : zE K A U H) (hq : ∀ a : Nat, a < H.size → ¬ A a → H1[a]? = H[a]?) : zE K A U H1 := ⟨h.1.kept hq, h.2.1.kept hq, h.2.2.1.kept hq, h.2.2.2.1.kept hq, h.2.2.2.2⟩
theorem zE.narrow {K : zK} {A B : Nat → Prop} {U : State} {H : Heap} (h : zE K A U H) (hAB : ∀ q, B q → A q) : zE K B U H := ⟨h.1.narrow hAB, h.2.1.narrow hAB, h.2.2.1.narrow hAB, h.2.2.2.1.narrow hAB, h.2.2.2.2⟩
/-- what is true of every class of ours -/
def zty (q : vw_C) (k : Nat) : FieldType := (parseFieldDescriptor (q.2.1 k).2.2.1).getD .int
def zclok (q : vw_C) : Prop := (∀ w ∈ u_ws q.1 q.2.1 q.2.2, w ∈ ztb) ∧ (∀ k, k < q.2.2 → parseFieldDescriptor (q.2.1 k).2.2.1 = some (zty q k)) ∧ (∀ a, a < q.2.2 → ∀ b, b < q.2.2 → a ≠ b → (q.2.1 a).2.1 ≠ (q.2.1 b).2.1)
end ZTables
section ZFrame
/-- launch, classes and slots, classes of arrays, where our part of the heap begins -/
abbrev zG : Type := Launch × va_G × zK × Nat
/-- a method: name, code, locals, answer; depth, cells, slots -/
abbrev zY : Type := MethodName × ByteArray × Nat × Option FieldType × Nat × Nat × Nat
/-- a run of a method: program, environment, first state, method, arguments, frames below, method and code, where it is to come -/
abbrev zX : Type := Program × Env × State × MethodId × Array Value × List Frame × Method × Code × (State → Prop)
def zR (i : zY) : Room := { frames := i.2.2.2.2.1, cells := i.2.2.2.2.2.1, slots := i.2.2.2.2.2.2, locals := 39 * i.2.2.2.2.1 }
def zA (g : zG) : Nat → Prop := fun q => g.2.2.2 ≤ q
def zH (g : zG) (U : State) (H : Heap) : Prop := zT g.2.1 g.2.2.1 U ∧ zE g.2.2.1 (zA g) U H ∧ g.2.2.2 ≤ H.size
def zI (g : zG) (ws : va_W) (H : Heap) : Prop := va_P g.2.1 zcl ws H ∧ va_D (zA g) ws
def zPc (g : zG) (av : List Value) (ws : va_W) : Array Value → State → Prop := va_Pc av (fun U => zH g U U.heap ∧ zI g ws U.heap)
def zQc (g : zG) (post : Option Value → va_W → Prop) : Array Value → State → Outcome → State → Prop := fun _ st oc t => (∃ (v : Option Value) (ws' : va_W), oc = .returned v ∧ post v ws' ∧ zI g ws' t.heap) ∧ va_F (zA g) st t
/-- the contract: called with av over the world ws the method returns, and 'post answer world' -/
def zC (g : zG) (i : zY) (av : List Value) (ws : va_W) (post : Option Value → va_W → Prop) : Prop :=
  Met g.1 i.1 [.code i.1 i.2.1 i.2.2.1 i.2.2.2.1] (zR i) (zPc g av ws) (zQc g post) i.2.2.2.2.2.1 i.2.2.2.2.2.2 (zA g)
/-- what is known of a run -/
def zFx (x : zX) (g : zG) (i : zY) : Prop :=
  x.1.tables.exec = Jvm.exec ∧ x.2.2.2.2.2.2.2.1.code = i.2.1 ∧ x.2.2.2.2.2.2.2.1.maxLocals = i.2.2.1 ∧ x.2.2.1.vm.findClass i.1.cls = some x.2.2.2.1.cls ∧ x.2.2.2.2.2.2.1.sig.returnType = i.2.2.2.1 ∧ x.2.2.2.2.2.2.1.locks = false ∧ x.2.2.2.2.2.2.1.name = i.1.name ∧ zH g x.2.2.1 x.2.2.1.heap
def zpr : Nat → List (Option Value) → List (Nat × Value)
  | _, [] => []
  | j, none :: r => zpr (j + 1) r
  | j, some v :: r => (j, v) :: zpr (j + 1) r
def zL (nL : Nat) (ls : Array Slot) (loc : List (Option Value)) : Prop := lv_has ls nL (zpr 0 loc) ∧ ∀ v, some v ∈ loc → v.category = 1
/-- the walk: at pc with these locals, this operand stack, this world, so many cells and slots made, the run comes where it is to come -/
def zW (x : zX) (g : zG) (i : zY) (pc : Nat) (loc : List (Option Value)) (st : List Value) (ws : va_W) (cl sl : Nat) : Prop :=
  zFx x g i → ∀ (H : Heap) (locs : List Loc) (ls : Array Slot), zI g ws H → va_S (zA g) x.2.2.1.heap H locs → zL i.2.2.1 ls loc →
    W x.1 g.1 x.2.1 (zR i) x.2.2.1 x.2.2.2.1 x.2.2.2.2.1 x.2.2.2.2.2.1 x.2.2.2.2.2.2.1 x.2.2.2.2.2.2.2.1 H locs cl sl x.2.2.2.2.2.2.2.2 (F0 x.2.2.2.1 pc ls st)
/-- where a method's run is to come: back, with post -/
def zQ (x : zX) (g : zG) (i : zY) (post : Option Value → va_W → Prop) : Prop := x.2.2.2.2.2.2.2.2 = MQ x.2.2.2.2.2.1 (zQc g post) x.2.2.2.2.1 x.2.2.1 i.2.2.2.2.2.1 i.2.2.2.2.2.2 (zA g)
theorem zpr_mem : ∀ (loc : List (Option Value)) (k j : Nat) (v : Value), (j, v) ∈ zpr k loc ↔ ∃ t, j = k + t ∧ loc[t]? = some (some v)
  | [], k, j, v => by simp [zpr]
  | none :: r, k, j, v => by
    rw [zpr, zpr_mem r (k + 1) j v]
    constructor
    · rintro ⟨t, h1, h2⟩
      exact ⟨t + 1, by omega, by rw [List.getElem?_cons_succ]; exact h2⟩
    · rintro ⟨t, h1, h2⟩
      cases t with
      | zero => rw [List.getElem?_cons_zero] at h2; cases h2
      | succ t => exact ⟨t, by omega, by rw [List.getElem?_cons_succ] at h2; exact h2⟩
  | some w :: r, k, j, v => by
    rw [zpr, List.mem_cons, zpr_mem r (k + 1) j v]
    constructor
    · rintro (h | ⟨t, h1, h2⟩)
      · cases h
        exact ⟨0, by omega, rfl⟩
      · exact ⟨t + 1, by omega, by rw [List.getElem?_cons_succ]; exact h2⟩
    · rintro ⟨t, h1, h2⟩
      cases t with
      | zero =>
        rw [List.getElem?_cons_zero] at h2
        cases h2
        exact Or.inl (by rw [h1, Nat.add_zero])
      | succ t => exact Or.inr ⟨t, by omega, by rw [List.getElem?_cons_succ] at h2; exact h2⟩
theorem zL.at {nL : Nat} {ls : Array Slot} {loc : List (Option Value)} (h : zL nL ls loc) {j : Nat} {v : Value} (hj : loc[j]? = some (some v)) : ls[j]? = some (.val v) :=
  h.1.2.2 (j, v) ((zpr_mem loc 0 j v).mpr ⟨j, by omega, hj⟩)
theorem zL.cat {nL : Nat} {ls : Array Slot} {loc : List (Option Value)} (h : zL nL ls loc) {j : Nat} {v : Value} (hj : loc[j]? = some (some v)) : v.category = 1 := h.2 v (List.mem_of_getElem? hj)
theorem zL.set {nL : Nat} {ls ls' : Array Slot} {loc : List (Option Value)} (h : zL nL ls loc) {j : Nat} {v : Value} (hc : v.category = 1)
    (h' : lv_has ls' nL ((j, v) :: (zpr 0 loc).filter (fun q => !(q.1 == j) && !(q.1 + 1 == j && q.2.category == 2)))) : zL nL ls' (loc.set j (some v)) := by
  refine ⟨⟨h'.1, h'.2.1, fun q hq => ?_⟩, fun w hw => ?_⟩
  · obtain ⟨t, w⟩ := q
    obtain ⟨t', e1, e2⟩ := (zpr_mem _ 0 t w).mp hq
    have e1 : t = t' := by omega
    subst e1
    rw [List.getElem?_set] at e2
    by_cases hj : j = t
    · rw [if_pos hj] at e2
      by_cases hl : j < loc.length
      · rw [if_pos hl] at e2
        cases e2
        exact h'.2.2 (t, v) (by rw [← hj]; exact List.mem_cons_self)
      · rw [if_neg hl] at e2
        cases e2
    · rw [if_neg hj] at e2
      refine h'.2.2 (t, w) (List.mem_cons_of_mem _ (List.mem_filter.mpr ⟨(zpr_mem loc 0 t w).mpr ⟨t, by omega, e2⟩, ?_⟩))
      have hcw : w.category = 1 := h.cat e2
      have hne : ¬ t = j := fun q => hj q.symm
      simp [hne, hcw]
  · obtain ⟨t, ht⟩ := List.mem_iff_getElem?.mp hw
    rw [List.getElem?_set] at ht
    by_cases hj : j = t
    · rw [if_pos hj] at ht
      by_cases hl : j < loc.length
      · rw [if_pos hl] at ht
        cases ht
        exact hc
      · rw [if_neg hl] at ht
        cases ht
    · rw [if_neg hj] at ht
      exact h.cat ht
/-- a method's first locals -/
def zloc (av : List Value) (n : Nat) : List (Option Value) := av.map some ++ List.replicate (n - av.length) none
theorem zpr_none : ∀ (n k : Nat), zpr k (List.replicate n none) = []
  | 0, _ => rfl
  | n + 1, k => by rw [List.replicate_succ, zpr, zpr_none n]
theorem zpr_app : ∀ (av : List Value) (k : Nat) (n : Nat), (∀ v ∈ av, v.category = 1) → zpr k (av.map some ++ List.replicate n none) = lv_args k av
  | [], k, n, _ => zpr_none n k
  | v :: r, k, n, h => by
    rw [List.map_cons, List.cons_append, zpr, zpr_app r (k + 1) n (fun w hw => h w (List.mem_cons_of_mem _ hw)), lv_args, if_neg (by rw [h v List.mem_cons_self]; decide)]
theorem zsl_len : ∀ (av : List Value), (∀ v ∈ av, v.category = 1) → (lg_sl av).length = av.length
  | [], _ => rfl
  | v :: r, h => by
    have h1 : ¬ v.category = 2 := by rw [h v List.mem_cons_self]; decide
    have e : lg_sl (v :: r) = [Slot.val v] ++ lg_sl r := by
      show (v :: r).flatMap _ = _
      rw [List.flatMap_cons, if_neg h1]
      rfl
    rw [e, List.length_append, zsl_len r (fun w hw => h w (List.mem_cons_of_mem _ hw)), List.length_cons]
    show 1 + r.length = r.length + 1
    omega
def zcat1 (av : List Value) : Bool := av.all (fun v => v.category == 1)
theorem zcat1_all {av : List Value} (h : zcat1 av = true) : ∀ v ∈ av, v.category = 1 := fun v hv => by
  have := List.all_eq_true.mp h v hv
  simpa using this
/-- a contract, out of a walk of the body -/
theorem zC.intro {g : zG} {i : zY} {av : List Value} {ws : va_W} {post : Option Value → va_W → Prop} (hy : plainFor i.1 = true) (hc : zcat1 av = true) (hn : av.length ≤ i.2.2.1)
    (body : ∀ x : zX, zQ x g i post → zW x g i 0 (zloc av i.2.2.1) [] ws 0 0) : zC g i av ws post := by
  obtain ⟨y, cc, nL, ret, d, mc, ms⟩ := i
  refine va_MetF (cc := cc) (maxL := nL) (ret := ret) hy rfl ?_
  intro p e s m args below meth c s₁ B hml hv
  obtain ⟨rfl, hH, hI⟩ := hv
  have hlen := zsl_len av (zcat1_all hc)
  have hl := lv_entry av (n := nL) (by rw [hlen]; exact hn)
  rw [lg_entry_eq]
  generalize (lg_sl av ++ List.replicate (nL - (lg_sl av).length) Slot.unset).toArray = ls at hl ⊢
  have hF : zFx (p, e, s, m, av.toArray, below, meth, c, MQ below (zQc g post) av.toArray s mc ms (zA g)) g (y, cc, nL, ret, d, mc, ms) :=
    ⟨B.exec, B.bytes, hml, findClass_of_methodNamed B.named, B.returns, B.notSynchronized, (name_of_methodNamed B.named B.method).1, hH⟩
  refine body (p, e, s, m, av.toArray, below, meth, c, MQ below (zQc g post) av.toArray s mc ms (zA g)) rfl hF s.heap [] ls hI va_S.rf ⟨?_, fun v hv => ?_⟩
  · show lv_has ls nL (zpr 0 (zloc av nL))
    unfold zloc
    rw [zpr_app av 0 _ (zcat1_all hc)]
    exact hl
  · have hv : some v ∈ av.map some ++ List.replicate (nL - av.length) none := hv
    rcases List.mem_append.mp hv with h | h
    · obtain ⟨w, hw, e⟩ := List.mem_map.mp h
      cases e
      exact zcat1_all hc _ hw
    · exact absurd (List.eq_of_mem_replicate h) (by simp)
/-- a contract may ask for less -/
theorem zC.weak {g : zG} {i : zY} {av : List Value} {ws : va_W} {p q : Option Value → va_W → Prop} (h : zC g i av ws p) (hpq : ∀ v w, p v w → q v w) : zC g i av ws q := by
  intro pr e h1 h2 h3 s m args below h4 h5 h6 h7
  obtain ⟨n, o, a1, a2, a3, ⟨⟨v, w, b1, b2, b3⟩, b4⟩, b5⟩ := h pr e h1 h2 h3 s m args below h4 h5 h6 h7
  exact ⟨n, o, a1, a2, a3, ⟨⟨v, w, b1, hpq v w b2, b3⟩, b4⟩, b5⟩
end ZFrame
