/-! Catching: a search through handlers whose classes may not be linked yet; methods with handlers. -/
section ZCatch
/-- what the search gives, and the tables that it leaves -/
def zFinds (e : Env) (s : State) (f : JFrame) (a : Nat) (h : Handler) (vm' : Vm) : Prop :=
  ∀ (Q : Handler → Pre) (E : CtlPost) (d : Bool) (acts : List Action), wp (findHandler f a) Q E e d acts s ↔ Q h d acts (s.setVm vm')
theorem zgo_hit {Q : Handler → Pre} {E : CtlPost} {e : Env} {d : Bool} {acts : List Action} {s : State} {f : JFrame} {a : Nat} {y : ExceptionTableEntry} {t : List ExceptionTableEntry} {c : ClassId} {cell : Cell} (hx : covers y f.pc = true) (h0 : y.catchType ≠ 0)
    (hl : s.vm.ClassLinks e.platform f.method.cls y.catchType c) (hcell : s.heap[a]? = some cell) (hobj : ∀ k, cell.vm ≠ .statics k) (hk : ∃ k, s.vm.classes[cell.cls]? = some k) (hc : ∃ k, s.vm.classes[c]? = some k) (hfit : s.vm.assignable cell.cls c = true) :
    wp (findHandler.go f a (y :: t)) Q E e d acts s ↔ Q (.found y.handlerPc) d acts (s.setVm (s.vm.noted f.method.cls y.catchType (.cls c))) := by
  simp only [covers] at hx
  obtain ⟨ha, ht⟩ := (resolveClass_links e.toSetting hl).op (op := VmOp.resolveClass f.method.cls y.catchType) rfl
  have hal : s.vm.Alike (s.vm.noted f.method.cls y.catchType (.cls c)) := (Vm.Alike.refl s.vm).noted _ _ _
  obtain ⟨k1, hk1⟩ := hk
  obtain ⟨k2, hk2⟩ := hc
  obtain ⟨k1', hk1', -⟩ := hal.2.2 _ _ hk1
  obtain ⟨k2', hk2', -⟩ := hal.2.2 _ _ hk2
  have hfit' : (s.vm.noted f.method.cls y.catchType (.cls c)).assignable cell.cls c = true := by rw [hal.assignable]; exact hfit
  simp [findHandler.go, hx, h0, ha, ht, hcell, hobj, hk1', hk2', hfit', VmOp.dirties, VmOp.acts]
theorem zgo_pass {Q : Handler → Pre} {E : CtlPost} {e : Env} {d : Bool} {acts : List Action} {s : State} {f : JFrame} {a : Nat} {y : ExceptionTableEntry} {t : List ExceptionTableEntry} {c : ClassId} {cell : Cell} (hx : covers y f.pc = true) (h0 : y.catchType ≠ 0)
    (hl : s.vm.ClassLinks e.platform f.method.cls y.catchType c) (hcell : s.heap[a]? = some cell) (hobj : ∀ k, cell.vm ≠ .statics k) (hk : ∃ k, s.vm.classes[cell.cls]? = some k) (hc : ∃ k, s.vm.classes[c]? = some k) (hno : s.vm.assignable cell.cls c = false) :
    wp (findHandler.go f a (y :: t)) Q E e d acts s ↔ wp (findHandler.go f a t) Q E e d acts (s.setVm (s.vm.noted f.method.cls y.catchType (.cls c))) := by
  simp only [covers] at hx
  obtain ⟨ha, ht⟩ := (resolveClass_links e.toSetting hl).op (op := VmOp.resolveClass f.method.cls y.catchType) rfl
  have hal : s.vm.Alike (s.vm.noted f.method.cls y.catchType (.cls c)) := (Vm.Alike.refl s.vm).noted _ _ _
  obtain ⟨k1, hk1⟩ := hk
  obtain ⟨k2, hk2⟩ := hc
  obtain ⟨k1', hk1', -⟩ := hal.2.2 _ _ hk1
  obtain ⟨k2', hk2', -⟩ := hal.2.2 _ _ hk2
  have hno' : (s.vm.noted f.method.cls y.catchType (.cls c)).assignable cell.cls c = false := by rw [hal.assignable]; exact hno
  simp [findHandler.go, hx, h0, ha, ht, hcell, hobj, hk1', hk2', hno', VmOp.dirties, VmOp.acts]
theorem zthr_catch {e : Env} {s : State} {a : Nat} {f : JFrame} {r : List Frame} {pc : Nat} {vm' : Vm} (hfind : zFinds e s f a (.found pc) vm') :
    (stepThrowing e s a (.java f :: r)).Is ((s.setVm vm').setFrames (.java { f with pc := pc, stack := [.ref a] } :: r)) [] := by
  simp only [stepThrowing, searchFrame, vmDo]
  generalize hr : Sem.go _ e false [] s = res
  obtain ⟨as, rfl, ha⟩ := Sem.eq_ok_of hr (a := Handler.found pc) (s' := s.setVm vm') (acts' := []) (by simp [hfind _ _ _ _])
  exact ⟨rfl, ha⟩
theorem zcaught {tb : Tables} {e : Env} {s target : State} {gf : JFrame} {c : Code} {below : List Frame} {a : Nat} (h : At s gf.method c below) {pc : Nat} {vm' : Vm}
    (hfind : zFinds e ((s.setTop gf).pushFrame (.throwing a)) gf a (.found pc) vm') (hrest : Steps tb e below ((s.setVm vm').setTop { gf with pc := pc, stack := [.ref a] }) target) :
    Steps tb e below ((s.setTop gf).pushFrame (.throwing a)) target := by
  obtain ⟨hgo, hw⟩ := h.throwing a
  refine Steps.head hgo hw ?_
  rw [stepThread_throwing (frames_entered h.top _), (zthr_catch (s := (s.setTop gf).pushFrame (.throwing a)) hfind).1]
  obtain ⟨g₀, hg⟩ := Option.isSome_iff_exists.mp h.top
  obtain ⟨r, hr⟩ := State.topJava?_eq_some.mp hg
  have hr' : (s.setVm vm').frames = .java g₀ :: r := hr
  rw [State.setTop_of_frames _ hr'] at hrest
  have ev : ∀ (u : State) (F G : List Frame), ((u.setFrames F).setVm vm').setFrames G = (u.setVm vm').setFrames G := fun u F G => by
    have h1 : (u.setFrames F).setVm vm' = (u.setVm vm').setFrames F := rfl
    rw [h1, State.setFrames_setFrames]
  rw [hr, List.tail_cons, State.pushFrame, ev, State.setTop_of_frames _ hr, ev]
  exact hrest
variable {x : zX} {g : zG} {i : zY} {X : String}
/-- what the handlers of a run do with an X that is thrown at pc: they go on at hp -/
def zHp (x : zX) (g : zG) (i : zY) (X : String) (pc hp : Nat) : Prop :=
  ∀ (T : State) (locs : List Loc) (mc ms b : Nat) (gf : JFrame), Stand x.1 g.1 x.2.1 (zR i) x.2.2.1 x.2.2.2.1 x.2.2.2.2.1 x.2.2.2.2.2.1 x.2.2.2.2.2.2.1 x.2.2.2.2.2.2.2.1 T locs mc ms → zThr X b x.2.2.1 T → gf.method = x.2.2.2.1 → gf.pc = pc →
    ∃ vm' : Vm, Stand x.1 g.1 x.2.1 (zR i) x.2.2.1 x.2.2.2.1 x.2.2.2.2.1 x.2.2.2.2.2.1 x.2.2.2.2.2.2.1 x.2.2.2.2.2.2.2.1 (T.setVm vm') locs mc ms ∧
      ∀ target, Steps x.1.tables x.2.1 x.2.2.2.2.2.1 ((T.setVm vm').setTop { gf with pc := hp, stack := [.ref b] }) target → Steps x.1.tables x.2.1 x.2.2.2.2.2.1 ((T.setTop gf).pushFrame (.throwing b)) target
theorem zHp.first {pc : Nat} {y : ExceptionTableEntry} {r : List ExceptionTableEntry} (F : zFx x g i) (hsplit : x.2.2.2.2.2.2.2.1.exceptionTable.toList = y :: r) (hx : covers y pc = true) (h0 : y.catchType ≠ 0) (hw : Cond.classLink i.1.cls y.catchType X ∈ ztb) (hw2 : Cond.castable X X ∈ ztb) : zHp x g i X pc y.handlerPc := by
  obtain ⟨p, e, s, m, args, below, meth, c, Q⟩ := x
  intro T locs mc ms b gf Y hth hg hpc
  obtain ⟨f1, f2, f3, f4, f5, f6, f7, f8, f9, f10⟩ := F
  obtain ⟨ce, hce, hcv, hcc⟩ := hth
  have hpl : e.platform.magicAccessors = ({} : Platform).magicAccessors := by rw [Y.admits.platform]
  obtain ⟨c', hc', hcl⟩ := Cond.classLink_spec f4 (f8.hts args _ hw) e.platform hpl
  obtain ⟨c1, c2, hc1, hc2, hfit⟩ := Cond.castable_spec (f8.hts args _ hw2)
  cases hc1.symm.trans hc2
  cases hc1.symm.trans hc'
  cases hcc.symm.trans hc1
  obtain ⟨dk, _, _, kt, hd, _, _, _, _, hkt, _, hopen⟩ := hcl.here
  have hcl₀ := Y.warmed.classLinks hcl
  have hW' : s.WarmedH (T.vm.noted m.cls y.catchType (.cls ce.cls)) := Y.warmed.noted hd hopen (State.rightAt_cls hcl)
  obtain ⟨kt', hkt', -⟩ := Y.warmed.alike.2.2 _ _ hkt
  have hfit' : T.vm.assignable ce.cls ce.cls = true := by rw [Y.warmed.alike.assignable]; exact hfit
  refine ⟨_, Y.noted hW', fun target hrest => ?_⟩
  subst hg
  subst hpc
  refine zcaught Y.here (fun Q E d acts => ?_) hrest
  rw [W.findHandler_eq (s := (T.setTop gf).pushFrame (.throwing b)) (f := gf) (meth := meth) (code := c) Y.method' Y.code]
  have hsplit : c.exceptionTable.toList = y :: r := hsplit
  rw [hsplit]
  exact zgo_hit (s := (T.setTop gf).pushFrame (.throwing b)) hx h0 hcl₀ hce (fun k h => by rw [hcv] at h; cases h) ⟨kt', hkt'⟩ ⟨kt', hkt'⟩ hfit'
theorem zHp.second {pc : Nat} {y z : ExceptionTableEntry} {r : List ExceptionTableEntry} (F : zFx x g i) (hsplit : x.2.2.2.2.2.2.2.1.exceptionTable.toList = y :: z :: r) (hy : covers y pc = true) (hz : covers z pc = true) (h0 : y.catchType ≠ 0) (h1 : z.catchType ≠ 0) (hw : Cond.classLink i.1.cls y.catchType "java/lang/IllegalArgumentException" ∈ ztb) (hw1 : Cond.classLink i.1.cls z.catchType "java/lang/IllegalStateException" ∈ ztb) (hw2 : Cond.castable "java/lang/IllegalStateException" "java/lang/IllegalStateException" ∈ ztb) : zHp x g i "java/lang/IllegalStateException" pc z.handlerPc := by
  obtain ⟨p, e, s, m, args, below, meth, c, Q⟩ := x
  intro T locs mc ms b gf Y hth hg hpc
  obtain ⟨f1, f2, f3, f4, f5, f6, f7, f8, f9, f10⟩ := F
  obtain ⟨ce, hce, hcv, hcc⟩ := hth
  have hpl : e.platform.magicAccessors = ({} : Platform).magicAccessors := by rw [Y.admits.platform]
  obtain ⟨cA, hcA, hlA⟩ := Cond.classLink_spec f4 (f8.hts args _ hw) e.platform hpl
  obtain ⟨c', hc', hcl⟩ := Cond.classLink_spec f4 (f8.hts args _ hw1) e.platform hpl
  obtain ⟨c1, c2, hc1, hc2, hfit⟩ := Cond.castable_spec (f8.hts args _ hw2)
  cases hc1.symm.trans hc2
  cases hc1.symm.trans hc'
  cases hcc.symm.trans hc1
  obtain ⟨a1, a2, n1, n2, hno⟩ := f9.2.2.2.2.2
  cases hcc.symm.trans n1
  cases hcA.symm.trans n2
  obtain ⟨dA, _, _, kA, hdA, _, _, _, _, hkA, _, hopA⟩ := hlA.here
  obtain ⟨dk, _, _, kt, hd, _, _, _, _, hkt, _, hopen⟩ := hcl.here
  have hlA₀ := Y.warmed.classLinks hlA
  have hWA : s.WarmedH (T.vm.noted m.cls y.catchType (.cls cA)) := Y.warmed.noted hdA hopA (State.rightAt_cls hlA)
  have hcl₀ := hWA.classLinks hcl
  have hW' : s.WarmedH ((T.vm.noted m.cls y.catchType (.cls cA)).noted m.cls z.catchType (.cls ce.cls)) := hWA.noted hd hopen (State.rightAt_cls hcl)
  obtain ⟨kA', hkA', -⟩ := Y.warmed.alike.2.2 _ _ hkA
  obtain ⟨kt', hkt', -⟩ := Y.warmed.alike.2.2 _ _ hkt
  obtain ⟨kt2, hkt2, -⟩ := hWA.alike.2.2 _ _ hkt
  have hno' : T.vm.assignable ce.cls cA = false := by rw [Y.warmed.alike.assignable]; exact hno
  have hfit' : (T.vm.noted m.cls y.catchType (.cls cA)).assignable ce.cls ce.cls = true := by rw [hWA.alike.assignable]; exact hfit
  refine ⟨_, Y.noted hW', fun target hrest => ?_⟩
  subst hg
  subst hpc
  refine zcaught Y.here (fun Q E d acts => ?_) hrest
  rw [W.findHandler_eq (s := (T.setTop gf).pushFrame (.throwing b)) (f := gf) (meth := meth) (code := c) Y.method' Y.code]
  have hsplit : c.exceptionTable.toList = y :: z :: r := hsplit
  rw [hsplit, zgo_pass (s := (T.setTop gf).pushFrame (.throwing b)) hy h0 hlA₀ hce (fun k h => by rw [hcv] at h; cases h) ⟨kt', hkt'⟩ ⟨kA', hkA'⟩ hno']
  exact zgo_hit (s := ((T.setTop gf).pushFrame (.throwing b)).setVm (T.vm.noted gf.method.cls y.catchType (.cls cA))) hz h1 hcl₀ hce (fun k h => by rw [hcv] at h; cases h) ⟨kt2, hkt2⟩ ⟨kt2, hkt2⟩ hfit'
end ZCatch
