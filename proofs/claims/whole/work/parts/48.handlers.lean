/-! Methods with handlers: their contracts, a callee's throw that they catch, calls of them. -/
section ZHandlers
/-- a contract of a method with handlers -/
def zCW (g : zG) (i : zY) (hh : List (Nat × Nat × Nat × Nat)) (av : List Value) (ws : va_W) (post : Option Value → va_W → Prop) : Prop :=
  Met g.1 i.1 [.codeWith i.1 i.2.1 i.2.2.1 i.2.2.2.1 hh] (zR i) (zPc g av ws) (zQc g post) i.2.2.2.2.2.1 i.2.2.2.2.2.2 (zA g)
/-- the handlers of a run -/
def zTab (x : zX) (hh : List (Nat × Nat × Nat × Nat)) : Prop := x.2.2.2.2.2.2.2.1.exceptionTable.toList.map (fun h => (h.startPc, h.endPc, h.handlerPc, h.catchType)) = hh
theorem zCW.intro {g : zG} {i : zY} {hh : List (Nat × Nat × Nat × Nat)} {av : List Value} {ws : va_W} {post : Option Value → va_W → Prop} (hy : plainName i.1.cls = true) (hc : zcat1 av = true) (hn : av.length ≤ i.2.2.1)
    (body : ∀ x : zX, zQ x g i post → zTab x hh → zW x g i 0 (zloc av i.2.2.1) [] ws 0 0) : zCW g i hh av ws post := by
  obtain ⟨y, cc, nL, ret, d, mc, ms⟩ := i
  refine va_MetW (cc := cc) (maxL := nL) (ret := ret) (hh := hh) hy rfl ?_
  intro p e s m args below meth c s₁ B hml hv
  obtain ⟨rfl, hH, hI⟩ := hv
  have hlen := zsl_len av (zcat1_all hc)
  have hl := lv_entry av (n := nL) (by rw [hlen]; exact hn)
  rw [lg_entry_eq]
  generalize (lg_sl av ++ List.replicate (nL - (lg_sl av).length) Slot.unset).toArray = ls at hl ⊢
  have hF : zFx (p, e, s, m, av.toArray, below, meth, c, MQ below (zQc g post) av.toArray s mc ms (zA g)) g (y, cc, nL, ret, d, mc, ms) :=
    ⟨B.exec, B.bytes, hml, findClass_of_methodNamed B.named, B.returns, B.notSynchronized, (name_of_methodNamed B.named B.method).1, hH⟩
  have hT : zTab (p, e, s, m, av.toArray, below, meth, c, MQ below (zQc g post) av.toArray s mc ms (zA g)) hh := by
    obtain ⟨m9, meth', c', hn9, h1, h2, -, -, h5, -, -, -⟩ := Cond.codeWith_spec (atoms_spec (ws := [Cond.codeWith y cc nL ret hh]) B.pre _ List.mem_cons_self)
    cases B.named.symm.trans hn9
    cases B.method.symm.trans h1
    cases (Stand.of_body B).code.symm.trans h2
    exact h5
  refine body (p, e, s, m, av.toArray, below, meth, c, MQ below (zQc g post) av.toArray s mc ms (zA g)) rfl hT hF s.heap [] ls hI va_S.rf ⟨?_, fun v hv => ?_⟩
  · show lv_has ls nL (zpr 0 (zloc av nL))
    unfold zloc
    rw [zpr_app av 0 _ (zcat1_all hc)]
    exact hl
  · have hv : some v ∈ av.map some ++ List.replicate (nL - av.length) none := hv
    rcases List.mem_append.mp hv with h | h
    · obtain ⟨w, hw, e⟩ := List.mem_map.mp h
      cases e
      exact zcat1_all hc _ hw
    · exact absurd (List.eq_of_mem_replicate h) (by simp)
variable {x : zX} {g : zG} {i : zY} {pc hp : Nat} {loc : List (Option Value)} {st st0 : List Value} {ws : va_W} {cl sl : Nat} {X : String}
theorem zHp1 {a b ct : Nat} {r : List (Nat × Nat × Nat × Nat)} (ht : zTab x ((a, b, hp, ct) :: r)) (h1 : a ≤ pc) (h2 : pc < b) (h0 : ct ≠ 0) (hw : Cond.classLink i.1.cls ct X ∈ ztb) (hw2 : Cond.castable X X ∈ ztb) (F : zFx x g i) : zHp x g i X pc hp := by
  unfold zTab at ht
  cases hl : x.2.2.2.2.2.2.2.1.exceptionTable.toList with
  | nil => rw [hl] at ht; cases ht
  | cons y t =>
    rw [hl, List.map_cons] at ht
    injection ht with e1 e2
    injection e1 with e1 e3
    injection e3 with e3 e4
    injection e4 with e4 e5
    subst e4
    exact zHp.first F hl (by rw [covers, e1, e3]; simp [h1, h2]) (by rw [e5]; exact h0) (by rw [e5]; exact hw) hw2
theorem zHp2 {a b h c a' b' c' : Nat} {r : List (Nat × Nat × Nat × Nat)} (ht : zTab x ((a, b, h, c) :: (a', b', hp, c') :: r)) (h1 : a ≤ pc) (h2 : pc < b) (h3 : a' ≤ pc) (h4 : pc < b') (h0 : c ≠ 0) (h5 : c' ≠ 0) (hw : Cond.classLink i.1.cls c "java/lang/IllegalArgumentException" ∈ ztb) (hw1 : Cond.classLink i.1.cls c' "java/lang/IllegalStateException" ∈ ztb) (hw2 : Cond.castable "java/lang/IllegalStateException" "java/lang/IllegalStateException" ∈ ztb) (F : zFx x g i) : zHp x g i "java/lang/IllegalStateException" pc hp := by
  unfold zTab at ht
  cases hl : x.2.2.2.2.2.2.2.1.exceptionTable.toList with
  | nil => rw [hl] at ht; cases ht
  | cons y t =>
    cases t with
    | nil => rw [hl] at ht; cases ht
    | cons z t =>
      rw [hl, List.map_cons, List.map_cons] at ht
      injection ht with e1 e2
      injection e1 with e1 e3
      injection e3 with e3 e4
      injection e4 with e4 e5
      injection e2 with d1 d2
      injection d1 with d1 d3
      injection d3 with d3 d4
      injection d4 with d4 d5
      subst d4
      exact zHp.second F hl (by rw [covers, e1, e3]; simp [h1, h2]) (by rw [covers, d1, d3]; simp [h3, h4]) (by rw [e5]; exact h0) (by rw [d5]; exact h5) (by rw [e5]; exact hw) (by rw [d5]; exact hw1) hw2
/-- a call whose callee throws what a handler catches -/
theorem zw_throwV (c : Nat) {q : vw_C} (hc : zcl[c]? = some q) {i' : zY} {n idx a : Nat} {av fs : List Value} (hH : zFx x g i → zHp x g i X pc hp) (hm : zM i' n) (hw : Cond.methodLink i.1.cls idx i'.1 ∈ ztb) (hw2 : Cond.instanceMethod i'.1 ∈ ztb) (hw3 : Cond.selects q.1 i'.1 i'.1 ∈ ztb) (hd : decode i.2.1 pc = .ok (.invokevirtual idx, 3)) (hn : av.length = n) (he : zget ws a = some (.inr (c, fs)))
    (hdep : i'.2.2.2.2.1 + 1 ≤ i.2.2.2.2.1) (hcl : cl + i'.2.2.2.2.2.1 ≤ i.2.2.2.2.2.1) (hsl : sl + i'.2.2.2.2.2.2 ≤ i.2.2.2.2.2.2) (hst : (st.map fun v => v.category).sum ≤ 8) (h0 : st0 = av.reverse ++ .ref a :: st) (kt : zCT g i' (.ref a :: av) ws X)
    (k : ∀ b : Nat, zW x g i hp loc [.ref b] ws (cl + i'.2.2.2.2.2.1) (sl + i'.2.2.2.2.2.2)) : zW x g i pc loc st0 ws cl sl := by
  intro F H locs ls hI hS hL T hT Y
  have hts := F.2.2.2.2.2.2.2.1.hts x.2.2.2.2.1
  have hb : x.2.2.2.2.2.2.2.1.code = i.2.1 := F.2.1
  obtain ⟨u, hu⟩ := zget_idx he
  obtain ⟨cellB, hcB, hobj, hcls⟩ := va_recv F.2.2.2.2.2.2.2.1.2 hI.1 hc hu
  obtain ⟨mk, methM, hnamed, hmethM, hstM, habM⟩ := Cond.instanceMethod_spec (hts _ hw2)
  obtain ⟨methM', cM, hmethM', -, -, -, -, -, -, hsigM⟩ := Cond.code_spec hnamed (hts _ hm.1)
  cases hmethM.symm.trans hmethM'
  obtain ⟨c2, r2, m2, q1, q2, q3, q4, kP, hkP, hkPi⟩ := Cond.selects_spec (hts _ hw3)
  cases hcls.symm.trans q1
  cases (State.methodFound?_of_named hnamed hm.2.2.1).symm.trans q2
  cases hnamed.symm.trans q3
  have hselP : selectMethod x.2.1.platform x.2.2.1.vm cellB.cls mk = .method mk := by rw [Launch.admits_selectMethod Y.admits]; exact q4
  obtain ⟨vm₁, X₁, hstep₁⟩ := Y.invokevirtual F.1 F.2.2.2.1 (hts _ hw) hnamed hmethM hstM hkP hkPi hm.2.2.1 (a := a) (cell := cellB) (by rw [hT]; exact hcB)
    (fun z h => by rw [h] at hobj; cases hobj) hselP hmethM habM hkP hkPi (g := F0 x.2.2.2.1 pc ls st0) rfl (argsL := av) (rest := st) (hn.trans (zpar hm _ hsigM)) h0 (by rw [hb]; exact hd)
  obtain ⟨b, T', L, Y', hI', hth, hS', stp⟩ := zback (gf := F0 x.2.2.2.1 pc ls st) kt F hm hdep X₁ (by rw [← hT] at hI; exact hI) (by rw [← hT] at hS; exact hS) rfl (hL.1.1.trans F.2.2.1.symm) (by rw [hb]; exact hd) (lv_room hst) (X₁.named hnamed) hcl hsl
  obtain ⟨vm', Y'', hgo⟩ := hH F T' (locs ++ L) _ _ b (F0 x.2.2.2.1 pc ls st) Y' hth rfl rfl
  obtain ⟨t, a1, b1⟩ := k b F T'.heap (locs ++ L) ls hI' hS' hL (T'.setVm vm') rfl Y''
  exact ⟨t, hstep₁ _ fun acts => by rw [doInvoke_state]; exact stp.trans (hgo t a1), b1⟩
/-- what the tables hold of a method with handlers -/
def zMW (i : zY) (hh : List (Nat × Nat × Nat × Nat)) (n : Nat) : Prop := Cond.codeWith i.1 i.2.1 i.2.2.1 i.2.2.2.1 hh ∈ ztb ∧ Cond.initialized i.1.cls ∈ ztb ∧ (i.1.cls ≠ "java/lang/invoke/MethodHandle" ∧ i.1.cls ≠ "java/lang/invoke/VarHandle") ∧ (parseMethodDescriptor i.1.desc).map (fun d => d.parameters.length) = some n ∧ i.2.2.1 ≤ 20
theorem zw_callS {i' : zY} {hh : List (Nat × Nat × Nat × Nat)} {n idx : Nat} {av : List Value} (hm : zMW i' hh n) (hw : Cond.methodLink i.1.cls idx i'.1 ∈ ztb) (hw2 : Cond.static i'.1 ∈ ztb) (hd : decode i.2.1 pc = .ok (.invokestatic idx, 3)) (hn : av.length = n)
    (hdep : i'.2.2.2.2.1 + 1 ≤ i.2.2.2.2.1) (hcl : cl + i'.2.2.2.2.2.1 ≤ i.2.2.2.2.2.1) (hsl : sl + i'.2.2.2.2.2.2 ≤ i.2.2.2.2.2.2) (hst : (st.map fun v => v.category).sum ≤ 8) (h0 : st0 = av.reverse ++ st)
    (k : zCW g i' hh av ws (fun v ws' => zW x g i (pc + 3) loc (v.toList ++ st) ws' (cl + i'.2.2.2.2.2.1) (sl + i'.2.2.2.2.2.2))) : zW x g i pc loc st0 ws cl sl := by
  intro F H locs ls hI hS hL
  refine zcont (a := av.toArray) (mc := i'.2.2.2.2.2.1) (ms := i'.2.2.2.2.2.2) (st := st) (post := fun v ws' => zW x g i (pc + 3) loc (v.toList ++ st) ws' (cl + i'.2.2.2.2.2.1) (sl + i'.2.2.2.2.2.2)) ?_ F hS hL (fun v ws' h => h)
  intro T hT Y
  have hts := F.2.2.2.2.2.2.2.1.hts x.2.2.2.2.1
  have hb : x.2.2.2.2.2.2.2.1.code = i.2.1 := F.2.1
  have h20 : i'.2.2.1 ≤ 20 := hm.2.2.2.2
  have hK : Back g.1 (zR i) x.1 x.2.1 x.2.2.2.2.2.1 x.2.2.1 x.2.2.2.2.1 i'.1 3 8 (PreOf (zR i) i'.2.2.2.2.2.1 i'.2.2.2.2.2.2 (zPc g av ws)) (PostOf (zQc g (fun v ws' => zW x g i (pc + 3) loc (v.toList ++ st) ws' (cl + i'.2.2.2.2.2.1) (sl + i'.2.2.2.2.2.2))) i'.2.2.2.2.2.1 i'.2.2.2.2.2.2 (zA g)) :=
    va_backW (bytes := i'.2.1) (maxL := i'.2.2.1) (ret := i'.2.2.2.1) (hh := hh) k zblind rfl rfl hdep (by show 8 + (i'.2.2.1 + 11) + 39 * i'.2.2.2.2.1 ≤ 39 * i.2.2.2.2.1; omega)
      (fun w hw a' U hW => by rw [List.mem_singleton.mp hw]; exact (F.2.2.2.2.2.2.2.1.warm hW).hts a' _ hm.1) List.mem_cons_self (fun a' U hW => (F.2.2.2.2.2.2.2.1.warm hW).hts a' _ hm.2.1)
  obtain ⟨mk, methM, cM, hnamed, hmethM, -, -, -, -, -, -, hsigM⟩ := Cond.codeWith_spec (hts _ hm.1)
  have hstatic : methM.isStatic = true := Cond.static_spec hnamed hmethM (hts _ hw2)
  obtain ⟨kP, hkP, -⟩ := className_of_methodNamed hnamed
  have hinitP : kP.init = .initialized := Cond.initialized_spec (findClass_of_methodNamed hnamed) hkP (hts _ hm.2.1)
  have hlen : av.length = methM.sig.parameters.length := by
    have h2 := hm.2.2.2.1
    rw [hsigM] at h2
    exact hn.trans (Option.some.inj h2).symm
  obtain ⟨vm₁, X₁, hstep₁⟩ := Y.invokestatic F.1 F.2.2.2.1 (hts _ hw) hnamed hmethM hstatic hkP hinitP hm.2.2.1 (g := F0 x.2.2.2.1 pc ls st0) rfl (argsL := av) (rest := st) hlen h0 (by rw [hb]; exact hd)
  obtain ⟨v, ⟨U', l2, c2, s2⟩, X', ⟨g', mk', t, L, e1, e2, hq, h1, hL', h2, h3⟩, hsteps⟩ := hK x.2.2.2.1 x.2.2.2.2.2.2.1 x.2.2.2.2.2.2.2.1 ⟨T.setVm vm₁, locs, cl, sl⟩ (F0 x.2.2.2.1 pc ls st) (.invokestatic idx) mk av.toArray X₁ rfl (hL.1.1.trans F.2.2.1.symm) (by rw [hb]; exact hd) (lv_room hst) (X₁.named hnamed) ⟨hcl, hsl, zpre F hI hS (T.setVm vm₁) hT X₁.warmed⟩
  dsimp only [Pt.U, Pt.locs, Pt.cells, Pt.slots] at X' e1 e2 h1 h2 h3 hsteps
  subst h1; subst h2; subst h3
  exact ⟨v, (T.setVm vm₁).calling g' mk' av.toArray, t, U', L, hT, X', hL', e1, e2, hq, fun target h => hstep₁ _ fun acts => by rw [doInvoke_state]; exact hsteps.trans h⟩
end ZHandlers
