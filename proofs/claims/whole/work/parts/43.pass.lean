/-! A call whose callee throws: back in the caller, and out of a caller without handlers. -/
section ZPass
variable {x : zX} {g : zG} {i : zY} {pc : Nat} {loc : List (Option Value)} {st st0 : List Value} {ws : va_W} {cl sl : Nat} {X : String}
/-- the callee's run, seen by the caller -/
theorem zback {i' : zY} {n : Nat} {av : List Value} (hM : zCT g i' av ws X) (F : zFx x g i) (hm : zM i' n) (hdep : i'.2.2.2.2.1 + 1 ≤ i.2.2.2.2.1) {T : State} {locs : List Loc} {gf : JFrame} {ig : Instr} {len : Nat} {mk : MethodId}
    (Y : Stand x.1 g.1 x.2.1 (zR i) x.2.2.1 x.2.2.2.1 x.2.2.2.2.1 x.2.2.2.2.2.1 x.2.2.2.2.2.2.1 x.2.2.2.2.2.2.2.1 T locs cl sl) (hI : zI g ws T.heap) (hS : va_S (zA g) x.2.2.1.heap T.heap locs) (hg : gf.method = x.2.2.2.1) (hsize : gf.locals.size = x.2.2.2.2.2.2.2.1.maxLocals) (hdg : decode x.2.2.2.2.2.2.2.1.code gf.pc = .ok (ig, len))
    (hW : 2 * gf.monitorRoom + (gf.stack.map fun v => v.category).sum ≤ 8) (hn : T.methodNamed? i'.1 = some mk) (hcl : cl + i'.2.2.2.2.2.1 ≤ i.2.2.2.2.2.1) (hsl : sl + i'.2.2.2.2.2.2 ≤ i.2.2.2.2.2.2) :
    ∃ (b : Nat) (T' : State) (L : List Loc), Stand x.1 g.1 x.2.1 (zR i) x.2.2.1 x.2.2.2.1 x.2.2.2.2.1 x.2.2.2.2.2.1 x.2.2.2.2.2.2.1 x.2.2.2.2.2.2.2.1 T' (locs ++ L) (cl + i'.2.2.2.2.2.1) (sl + i'.2.2.2.2.2.2) ∧ zI g ws T'.heap ∧ zThr X b x.2.2.1 T' ∧ va_S (zA g) x.2.2.1.heap T'.heap (locs ++ L) ∧
      Steps x.1.tables x.2.1 x.2.2.2.2.2.1 (doInvoke x.2.1 (T.setTop gf) [] mk av.toArray).1 ((T'.setTop gf).pushFrame (.throwing b)) := by
  have hP0 := zpre (av := av) F hI hS T rfl Y.warmed
  have hT0 := F.2.2.2.2.2.2.2.1.warm Y.warmed
  have hro := zroom (i := i) hm hdep
  obtain ⟨p, e, s, m, args, below, meth, c, Q⟩ := x
  obtain ⟨methY, cY, hmY, hcY, -, hlY, -, -, -, -⟩ := Cond.code_spec hn (hT0.hts av.toArray _ hm.1)
  obtain ⟨kY, hkY, -⟩ := className_of_methodNamed hn
  have hinitY : kY.init = .initialized := Cond.initialized_spec (findClass_of_methodNamed hn) hkY (hT0.hts av.toArray _ hm.2.1)
  have h : At T gf.method c below := by rw [hg]; exact Y.here
  have happ : (headSpec [Cond.code i'.1 i'.2.1 i'.2.2.1 i'.2.2.2.1] (zR i')).appliesLoose i'.1 e.platform (T.calling gf mk av.toArray) = true :=
    Spec.appliesLoose_calling (g := gf) h hdg hn hkY hinitY
      (Y.room_calling (g := gf) (R' := zR i') hsize hmY hcY hro.1 (by have := hro.2; rw [hlY]; omega) hcl hsl) (atoms_intro fun w hw => by rw [List.mem_singleton.mp hw]; exact hT0.hts _ _ hm.1)
  obtain ⟨mid, hmid⟩ := h.above
  have hfr : (T.setTop gf).frames = (.java gf :: mid) ++ below := by rw [State.frames_setTop' gf h.top, hmid]; rfl
  obtain ⟨o, s₂, hsteps, -, hend, hq⟩ := Steps.callFree hM p Y.admits Y.cas Y.clock (acts := []) hfr happ (zblind av.toArray T gf mk hP0) trivial
  have hq : zQT g ws X i'.2.2.2.2.2.1 i'.2.2.2.2.2.2 (T.calling gf mk av.toArray) o s₂ := hq
  rw [State.frames_setTop' gf h.top] at hend
  obtain ⟨b, rfl, hI', ⟨ce, hc1, hc2, hc3⟩, hF', L, ⟨hW₂, hsm⟩, hL⟩ := hq
  obtain ⟨e2, q2, q3, q4, q5, q6⟩ := id hsm
  have e3 : s₂ = ({ (T.calling gf mk av.toArray).setFrames s₂.frames with heap := s₂.heap, slotsUsed := s₂.slotsUsed } : State).setVm s₂.vm := by
    have : s₂ = ({ s₂ with vm := (T.calling gf mk av.toArray).vm } : State).setVm s₂.vm := rfl
    rw [e2] at this
    exact this
  have hf₂ : s₂.frames = .throwing b :: .java gf :: T.frames.tail := hend
  have hW' : T.WarmedH s₂.vm := hW₂
  obtain ⟨g₀, hg0⟩ := Option.isSome_iff_exists.mp h.top
  obtain ⟨r, hr⟩ := State.topJava?_eq_some.mp hg0
  have hs₂ : s₂ = ((({ T with heap := s₂.heap, slotsUsed := s₂.slotsUsed } : State).setVm s₂.vm).setTop gf).pushFrame (.throwing b) := by
    have hr' : (({ T with heap := s₂.heap, slotsUsed := s₂.slotsUsed } : State).setVm s₂.vm).frames = .java g₀ :: r := hr
    refine e3.trans ?_
    rw [hf₂, State.calling_eq h.top, State.setFrames_setFrames, State.pushFrame, State.frames_setTop _ hr', State.setTop_of_frames _ hr', State.setFrames_setFrames, hr]
    rfl
  have hsame : T.sameButNew ({ T with heap := s₂.heap, slotsUsed := s₂.slotsUsed } : State) L i'.2.2.2.2.2.1 i'.2.2.2.2.2.2 := by
    refine ⟨?_, q2, q3, q4, q5, q6⟩
    obtain ⟨t, ht, -⟩ := State.frames_cons hr
    show ({ T with heap := s₂.heap, slotsUsed := s₂.slotsUsed } : State) = { T.setFrames T.frames with heap := s₂.heap, slotsUsed := s₂.slotsUsed }
    rw [State.setFrames_self ht]
  subst hg
  refine ⟨b, ({ T with heap := s₂.heap, slotsUsed := s₂.slotsUsed } : State).setVm s₂.vm, L,
    ⟨Y.admits, Y.cas, Y.clock, Y.frames, Y.room, Y.hears, Y.method, Y.code, (Y.here.setHeapUsed s₂.heap s₂.slotsUsed).setVm hW'.alike, Y.tail, State.WarmedH.trans Y.warmed hW', Y.limits, Y.bytes, Y.same.trans (hsame.setVm s.vm)⟩,
    hI', ⟨ce, hc1, hc2, by rw [← Y.warmed.alike.findClass]; exact hc3⟩, ⟨?_, fun q h1 h2 => ?_, fun q hq => ?_⟩, ?_⟩
  · exact Nat.le_trans hS.1 hF'.1
  · exact (hF'.2 q (Nat.lt_of_lt_of_le h1 hS.1) h2).trans (hS.2.1 q h1 h2)
  · rcases List.mem_append.mp hq with h | h
    · exact hS.2.2 q h
    · exact hL q h
  · show Steps p.tables e below _ (((({ T with heap := s₂.heap, slotsUsed := s₂.slotsUsed } : State).setVm s₂.vm).setTop gf).pushFrame (.throwing b))
    rw [← hs₂]
    exact hsteps
/-- out of the caller -/
theorem zout {mc ms : Nat} (hq : zQx x g i ws X) (hE : zEx x) (F : zFx x g i) {T' : State} {locs : List Loc} {gf : JFrame} {b : Nat} {s0 : State} (hcl : mc ≤ i.2.2.2.2.2.1) (hsl : ms ≤ i.2.2.2.2.2.2)
    (Y : Stand x.1 g.1 x.2.1 (zR i) x.2.2.1 x.2.2.2.1 x.2.2.2.2.1 x.2.2.2.2.2.1 x.2.2.2.2.2.2.1 x.2.2.2.2.2.2.2.1 T' locs mc ms) (hI : zI g ws T'.heap) (hth : zThr X b x.2.2.1 T') (hS : va_S (zA g) x.2.2.1.heap T'.heap locs) (hg : gf.method = x.2.2.2.1) (h1 : gf.locked = none) (h2 : gf.entered = [])
    (hst : Steps x.1.tables x.2.1 x.2.2.2.2.2.1 s0 ((T'.setTop gf).pushFrame (.throwing b))) : ∃ t, Steps x.1.tables x.2.1 x.2.2.2.2.2.1 s0 t ∧ x.2.2.2.2.2.2.2.2 t := by
  obtain ⟨p, e, s, m, args, below, meth, c, Q⟩ := x
  have hq : Q = fun t => ∃ o, t.status = .running ∧ Ended t below o ∧ zQT g ws X i.2.2.2.2.2.1 i.2.2.2.2.2.2 s o t := hq
  subst hq
  obtain ⟨k1, k2, k3, k4, k5⟩ := Y.leaveThrown b (g := gf) hg h1 h2 (fun r hr => hE r hr _) F.2.2.2.2.2.1
  refine ⟨T'.setFrames (.throwing b :: below), hst.trans k1, _, k2, k3, b, rfl, hI, hth, ⟨hS.1, hS.2.1⟩, locs, ⟨k4, k5.mono hcl hsl⟩, hS.2.2⟩
theorem zt_callS {i' : zY} {n idx : Nat} {av : List Value} (hq : zQx x g i ws X) (hE : zEx x) (hm : zM i' n) (hw : Cond.methodLink i.1.cls idx i'.1 ∈ ztb) (hw2 : Cond.static i'.1 ∈ ztb) (hd : decode i.2.1 pc = .ok (.invokestatic idx, 3)) (hn : av.length = n)
    (hdep : i'.2.2.2.2.1 + 1 ≤ i.2.2.2.2.1) (hcl : cl + i'.2.2.2.2.2.1 ≤ i.2.2.2.2.2.1) (hsl : sl + i'.2.2.2.2.2.2 ≤ i.2.2.2.2.2.2) (hst : (st.map fun v => v.category).sum ≤ 8) (h0 : st0 = av.reverse ++ st) (k : zCT g i' av ws X) : zW x g i pc loc st0 ws cl sl := by
  intro F H locs ls hI hS hL T hT Y
  have hts := F.2.2.2.2.2.2.2.1.hts x.2.2.2.2.1
  have hb : x.2.2.2.2.2.2.2.1.code = i.2.1 := F.2.1
  obtain ⟨mk, hnamed⟩ := Cond.code_named (hts _ hm.1)
  obtain ⟨methM, cM, hmethM, -, -, -, -, -, -, hsigM⟩ := Cond.code_spec hnamed (hts _ hm.1)
  have hstatic : methM.isStatic = true := Cond.static_spec hnamed hmethM (hts _ hw2)
  obtain ⟨kP, hkP, -⟩ := className_of_methodNamed hnamed
  have hinitP : kP.init = .initialized := Cond.initialized_spec (findClass_of_methodNamed hnamed) hkP (hts _ hm.2.1)
  obtain ⟨vm₁, X₁, hstep₁⟩ := Y.invokestatic F.1 F.2.2.2.1 (hts _ hw) hnamed hmethM hstatic hkP hinitP hm.2.2.1 (g := F0 x.2.2.2.1 pc ls st0) rfl (argsL := av) (rest := st) (hn.trans (zpar hm _ hsigM)) h0 (by rw [hb]; exact hd)
  obtain ⟨b, T', L, Y', hI', hth, hS', stp⟩ := zback (gf := F0 x.2.2.2.1 pc ls st) k F hm hdep X₁ (by rw [← hT] at hI; exact hI) (by rw [← hT] at hS; exact hS) rfl (hL.1.1.trans F.2.2.1.symm) (by rw [hb]; exact hd) (lv_room hst) (X₁.named hnamed) hcl hsl
  exact zout hq hE F hcl hsl Y' hI' hth hS' rfl rfl rfl (hstep₁ _ fun acts => by rw [doInvoke_state]; exact stp)
theorem zt_callV (c : Nat) {q : vw_C} (hc : zcl[c]? = some q) {i' : zY} {n idx a : Nat} {av fs : List Value} (hq : zQx x g i ws X) (hE : zEx x) (hm : zM i' n) (hw : Cond.methodLink i.1.cls idx i'.1 ∈ ztb) (hw2 : Cond.instanceMethod i'.1 ∈ ztb) (hw3 : Cond.selects q.1 i'.1 i'.1 ∈ ztb) (hd : decode i.2.1 pc = .ok (.invokevirtual idx, 3)) (hn : av.length = n) (he : zget ws a = some (.inr (c, fs)))
    (hdep : i'.2.2.2.2.1 + 1 ≤ i.2.2.2.2.1) (hcl : cl + i'.2.2.2.2.2.1 ≤ i.2.2.2.2.2.1) (hsl : sl + i'.2.2.2.2.2.2 ≤ i.2.2.2.2.2.2) (hst : (st.map fun v => v.category).sum ≤ 8) (h0 : st0 = av.reverse ++ .ref a :: st) (k : zCT g i' (.ref a :: av) ws X) : zW x g i pc loc st0 ws cl sl := by
  intro F H locs ls hI hS hL T hT Y
  have hts := F.2.2.2.2.2.2.2.1.hts x.2.2.2.2.1
  have hb : x.2.2.2.2.2.2.2.1.code = i.2.1 := F.2.1
  obtain ⟨u, hu⟩ := zget_idx he
  obtain ⟨cellB, hcB, hobj, hcls⟩ := va_recv F.2.2.2.2.2.2.2.1.2 hI.1 hc hu
  obtain ⟨mk, methM, hnamed, hmethM, hstM, habM⟩ := Cond.instanceMethod_spec (hts _ hw2)
  obtain ⟨methM', cM, hmethM', -, -, -, -, -, -, hsigM⟩ := Cond.code_spec hnamed (hts _ hm.1)
  cases hmethM.symm.trans hmethM'
  obtain ⟨c2, r2, m2, q1, q2, q3, q4, kP, hkP, hkPi⟩ := Cond.selects_spec (hts _ hw3)
  cases hcls.symm.trans q1
  cases (State.methodFound?_of_named hnamed hm.2.2.1).symm.trans q2
  cases hnamed.symm.trans q3
  have hselP : selectMethod x.2.1.platform x.2.2.1.vm cellB.cls mk = .method mk := by rw [Launch.admits_selectMethod Y.admits]; exact q4
  obtain ⟨vm₁, X₁, hstep₁⟩ := Y.invokevirtual F.1 F.2.2.2.1 (hts _ hw) hnamed hmethM hstM hkP hkPi hm.2.2.1 (a := a) (cell := cellB) (by rw [hT]; exact hcB)
    (fun z h => by rw [h] at hobj; cases hobj) hselP hmethM habM hkP hkPi (g := F0 x.2.2.2.1 pc ls st0) rfl (argsL := av) (rest := st) (hn.trans (zpar hm _ hsigM)) h0 (by rw [hb]; exact hd)
  obtain ⟨b, T', L, Y', hI', hth, hS', stp⟩ := zback (gf := F0 x.2.2.2.1 pc ls st) k F hm hdep X₁ (by rw [← hT] at hI; exact hI) (by rw [← hT] at hS; exact hS) rfl (hL.1.1.trans F.2.2.1.symm) (by rw [hb]; exact hd) (lv_room hst) (X₁.named hnamed) hcl hsl
  exact zout hq hE F hcl hsl Y' hI' hth hS' rfl rfl rfl (hstep₁ _ fun acts => by rw [doInvoke_state]; exact stp)
end ZPass
