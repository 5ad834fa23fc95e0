/-! Throwing: contracts whose outcome is 'threw', how they are made and how they are passed on. -/
section ZThrow
/-- what a thrown end keeps -/
def zFT (st t : State) (L : List Loc) (k n : Nat) : Prop := st.WarmedH t.vm ∧ st.sameButNew ({ t with vm := st.vm } : State) L k n
/-- the thrown object is of class X -/
def zThr (X : String) (b : Nat) (st t : State) : Prop := ∃ ce : Cell, t.heap[b]? = some ce ∧ ce.vm = .none ∧ st.vm.findClass X = some ce.cls
def zQT (g : zG) (ws : va_W) (X : String) (mc ms : Nat) (st : State) (o : Outcome) (t : State) : Prop :=
  ∃ b : Nat, o = .threw b ∧ zI g ws t.heap ∧ zThr X b st t ∧ va_F (zA g) st t ∧ ∃ L, zFT st t L mc ms ∧ ∀ q ∈ L, zA g q.base
/-- the contract: called with av over the world ws the method throws an X, and the world stays -/
def zCT (g : zG) (i : zY) (av : List Value) (ws : va_W) (X : String) : Prop :=
  MetFree g.1 i.1 (headSpec [.code i.1 i.2.1 i.2.2.1 i.2.2.2.1] (zR i)) (zPc g av ws) (fun _ _ _ _ _ => True) (fun _ st o t => zQT g ws X i.2.2.2.2.2.1 i.2.2.2.2.2.2 st o t)
/-- where a throwing run is to come -/
def zQx (x : zX) (g : zG) (i : zY) (ws : va_W) (X : String) : Prop := x.2.2.2.2.2.2.2.2 = fun t => ∃ o, t.status = .running ∧ Ended t x.2.2.2.2.2.1 o ∧ zQT g ws X i.2.2.2.2.2.1 i.2.2.2.2.2.2 x.2.2.1 o t
/-- no handlers -/
def zEx (x : zX) : Prop := ∀ q ∈ x.2.2.2.2.2.2.2.1.exceptionTable.toList, ∀ pc : Nat, covers q pc = false
/-- the same frame, our part of the heap begins elsewhere -/
def zgs (g : zG) (n : Nat) : zG := (g.1, g.2.1, g.2.2.1, n)
theorem zI.kept {g : zG} {ws : va_W} {H H1 : Heap} (h : zI g ws H) (hq : ∀ q : Nat, q < H.size → H1[q]? = H[q]?) : zI g ws H1 := by
  refine ⟨h.1.kept fun k q hk => hq q.1 ?_, h.2⟩
  exact (h.1 k q hk).lt
theorem zFx.gs {x : zX} {g : zG} {i : zY} (F : zFx x g i) : zFx x (zgs g x.2.2.1.heap.size) i := by
  obtain ⟨h1, h2, h3, h4, h5, h6, h7, h8, h9, h10⟩ := F
  exact ⟨h1, h2, h3, h4, h5, h6, h7, h8, h9.narrow (fun q hq => Nat.le_trans h10 hq), Nat.le_refl _⟩
theorem zI.nil {g : zG} {H : Heap} : zI g [] H := ⟨fun k q hk => by simp at hk, ⟨fun i j p q hi => by simp at hi, fun k q hk => by simp at hk⟩⟩
theorem zold {s t : State} {L : List Loc} {k n : Nat} (h : s.sameButNew t L k n) (hL : ∀ q ∈ L, s.heap.size ≤ q.base) : ∀ q : Nat, q < s.heap.size → t.heap[q]? = s.heap[q]? := by
  intro q hq
  obtain ⟨c, hc⟩ : ∃ c, s.heap[q]? = some c := ⟨s.heap[q], Array.getElem?_eq_getElem hq⟩
  obtain ⟨c', h1, h2, h3, h4⟩ := h.2.2.2.2.2 q c hc
  rw [h1, hc]
  have hs : c'.slots = c.slots := by
    refine Array.ext_getElem? fun i => h4 i fun hm => ?_
    have := hL _ hm
    exact absurd hq (Nat.not_lt.mpr this)
  rw [h2, hs]
theorem zCT.intro {g : zG} {i : zY} {av : List Value} {ws : va_W} {X : String} (hy : plainFor i.1 = true) (hc : zcat1 av = true) (hn : av.length ≤ i.2.2.1)
    (body : ∀ x : zX, zQx x g i ws X → zEx x → zFx x g i → zI g ws x.2.2.1.heap → ∃ (n : Nat) (w : va_W), zFx x (zgs g n) i ∧ zI (zgs g n) w x.2.2.1.heap ∧ zW x (zgs g n) i 0 (zloc av i.2.2.1) [] w 0 0) : zCT g i av ws X := by
  obtain ⟨y, cc, nL, ret, d, mc, ms⟩ := i
  refine MetFree.of_bodySF (code := cc) (maxLocals := nL) (ret := ret) hy ?_ ?_
  · intro args s m h hn
    obtain ⟨meth, c, h1, h2, h3, h4, h5, h6, -, -⟩ := Cond.code_spec hn (atoms_spec (ws := [Cond.code y cc nL ret]) h _ List.mem_cons_self)
    exact ⟨meth, c, h1, h2, h3, h4, h5, h6⟩
  · intro p e s m args below meth c s₁ B hml hv _
    obtain ⟨rfl, hH, hI⟩ := hv
    have hlen := zsl_len av (zcat1_all hc)
    have hl := lv_entry av (n := nL) (by rw [hlen]; exact hn)
    rw [lg_entry_eq]
    generalize (lg_sl av ++ List.replicate (nL - (lg_sl av).length) Slot.unset).toArray = ls at hl ⊢
    have hF : zFx (p, e, s, m, av.toArray, below, meth, c, fun t => ∃ o, t.status = .running ∧ Ended t below o ∧ zQT g ws X mc ms s o t) g (y, cc, nL, ret, d, mc, ms) :=
      ⟨B.exec, B.bytes, hml, findClass_of_methodNamed B.named, B.returns, B.notSynchronized, (name_of_methodNamed B.named B.method).1, hH⟩
    have X0 := Stand.of_body B
    have hE : zEx (p, e, s, m, av.toArray, below, meth, c, fun t => ∃ o, t.status = .running ∧ Ended t below o ∧ zQT g ws X mc ms s o t) := by
      intro q hq pc
      obtain ⟨meth', c', h1, h2, -, -, -, -, h7, -⟩ := Cond.code_spec B.named (atoms_spec (ws := [Cond.code y cc nL ret]) B.pre _ List.mem_cons_self)
      cases B.method.symm.trans h1
      cases X0.code.symm.trans h2
      have hq : q ∈ c.exceptionTable.toList := hq
      rw [Array.isEmpty_iff] at h7
      rw [h7] at hq
      simp at hq
    have hh0 : s₁.heap = s.heap := by rw [B.state]; rfl
    obtain ⟨n, w, F', I', hw⟩ := body (p, e, s, m, av.toArray, below, meth, c, fun t => ∃ o, t.status = .running ∧ Ended t below o ∧ zQT g ws X mc ms s o t) rfl hE hF hI
    obtain ⟨t, a1, o, b1, b2, b3⟩ := hw F' s.heap [] ls I' va_S.rf ⟨by
      show lv_has ls nL (zpr 0 (zloc av nL))
      unfold zloc
      rw [zpr_app av 0 _ (zcat1_all hc)]
      exact hl, fun v hv => by
      have hv : some v ∈ av.map some ++ List.replicate (nL - av.length) none := hv
      rcases List.mem_append.mp hv with h | h
      · obtain ⟨w, hw, e⟩ := List.mem_map.mp h
        cases e
        exact zcat1_all hc _ hw
      · exact absurd (List.eq_of_mem_replicate h) (by simp)⟩ s₁ hh0 X0
    exact ⟨t, o, a1, b1, b2, b3⟩
/-- the body goes on over the same world -/
theorem zCT.walk {g : zG} {i : zY} {av : List Value} {ws : va_W} {X : String} (hy : plainFor i.1 = true) (hc : zcat1 av = true) (hn : av.length ≤ i.2.2.1)
    (body : ∀ x : zX, zQx x g i ws X → zEx x → zW x g i 0 (zloc av i.2.2.1) [] ws 0 0) : zCT g i av ws X :=
  zCT.intro hy hc hn fun x hq hE F hI => ⟨g.2.2.2, ws, F, hI, body x hq hE⟩
/-- the body writes nothing that was there -/
theorem zCT.own {g : zG} {i : zY} {av : List Value} {ws : va_W} {X : String} (hy : plainFor i.1 = true) (hc : zcat1 av = true) (hn : av.length ≤ i.2.2.1)
    (body : ∀ x : zX, zQx x g i ws X → zEx x → zFx x g i → zI g ws x.2.2.1.heap → zW x (zgs g x.2.2.1.heap.size) i 0 (zloc av i.2.2.1) [] [] 0 0) : zCT g i av ws X :=
  zCT.intro hy hc hn fun x hq hE F hI => ⟨x.2.2.1.heap.size, [], F.gs, zI.nil, body x hq hE F hI⟩
/-- the words that throwing needs and that are no words of the tables -/
def zvw : List Cond := [.laysStatic "java/lang/Throwable" "UNASSIGNED_STACK" "[Ljava/lang/StackTraceElement;", .laysStatic "java/lang/Throwable" "SUPPRESSED_SENTINEL" "Ljava/util/List;", .isRef (.static "java/lang/Throwable" "UNASSIGNED_STACK" "[Ljava/lang/StackTraceElement;"), .isRef (.static "java/lang/Throwable" "SUPPRESSED_SENTINEL" "Ljava/util/List;")]
theorem zvw_at {A : Nat → Prop} {U : State} {args : Array Value} (h : zV A U U.heap) : ∀ w ∈ zvw, w.before args U = true := by
  intro w hw
  simp only [zvw, List.mem_cons, List.not_mem_nil, or_false] at hw
  rcases hw with rfl | rfl | rfl | rfl
  · exact h.1.lays
  · exact h.2.1.lays
  · exact h.1.isr
  · exact h.2.1.isr
end ZThrow
