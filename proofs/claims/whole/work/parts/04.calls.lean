/-! Returns and calls of the walk. -/
section ZReturns
variable {x : zX} {g : zG} {i : zY} {pc : Nat} {loc : List (Option Value)} {st : List Value} {ws : va_W} {cl sl : Nat} {post : Option Value → va_W → Prop}
theorem zo_ireturn {v : Int32} (hq : zQ x g i post) (hd : decode i.2.1 pc = .ok (.ireturn, 1)) (hr : i.2.2.2.1 = some .int) (hcl : cl ≤ i.2.2.2.2.2.1) (hsl : sl ≤ i.2.2.2.2.2.2) (k : post (some (.int v)) ws) : zW x g i pc loc [.int v] ws cl sl := by
  obtain ⟨p, e, s, m, args, below, meth, c, Q⟩ := x
  intro F H locs ls hI hS hL
  have hq : Q = MQ below (zQc g post) args s i.2.2.2.2.2.1 i.2.2.2.2.2.2 (zA g) := hq
  subst hq
  refine W.widen hcl hsl ?_
  exact W.iret F.1 F.2.1 (F.2.2.2.2.1.trans hr) (fun t ht hW => ⟨⟨_, ws, rfl, k, by rw [ht]; exact hI⟩, hS.F ht⟩) hS.2.2 hd F.2.2.2.2.2.1
theorem zo_zreturn {v : Int32} (hq : zQ x g i post) (hd : decode i.2.1 pc = .ok (.ireturn, 1)) (hr : i.2.2.2.1 = some .boolean) (hn : narrow .boolean (.int v) = .int v) (hcl : cl ≤ i.2.2.2.2.2.1) (hsl : sl ≤ i.2.2.2.2.2.2) (k : post (some (.int v)) ws) : zW x g i pc loc [.int v] ws cl sl := by
  obtain ⟨p, e, s, m, args, below, meth, c, Q⟩ := x
  intro F H locs ls hI hS hL
  have hq : Q = MQ below (zQc g post) args s i.2.2.2.2.2.1 i.2.2.2.2.2.2 (zA g) := hq
  subst hq
  refine W.widen hcl hsl ?_
  exact W.zret F.1 F.2.1 (F.2.2.2.2.1.trans hr) hn (fun t ht hW => ⟨⟨_, ws, rfl, k, by rw [ht]; exact hI⟩, hS.F ht⟩) hS.2.2 hd F.2.2.2.2.2.1
theorem zo_return (hq : zQ x g i post) (hd : decode i.2.1 pc = .ok (.return_, 1)) (hr : i.2.2.2.1 = none) (hcl : cl ≤ i.2.2.2.2.2.1) (hsl : sl ≤ i.2.2.2.2.2.2) (k : post none ws) : zW x g i pc loc [] ws cl sl := by
  obtain ⟨p, e, s, m, args, below, meth, c, Q⟩ := x
  intro F H locs ls hI hS hL
  have hq : Q = MQ below (zQc g post) args s i.2.2.2.2.2.1 i.2.2.2.2.2.2 (zA g) := hq
  subst hq
  refine W.widen hcl hsl ?_
  exact W.vret F.1 F.2.1 (F.2.2.2.2.1.trans hr) (fun t ht hW => ⟨⟨_, ws, rfl, k, by rw [ht]; exact hI⟩, hS.F ht⟩) hS.2.2 hd F.2.2.2.2.2.1
theorem zo_areturn {v : Value} {rt : FieldType} (hq : zQ x g i post) (hd : decode i.2.1 pc = .ok (.areturn, 1)) (hr : i.2.2.2.1 = some rt) (hrt : (∃ n, rt = .object n) ∨ ∃ t, rt = .array t) (hv : v = .null ∨ ∃ a, v = .ref a) (hcl : cl ≤ i.2.2.2.2.2.1) (hsl : sl ≤ i.2.2.2.2.2.2) (k : post (some v) ws) : zW x g i pc loc [v] ws cl sl := by
  obtain ⟨p, e, s, m, args, below, meth, c, Q⟩ := x
  intro F H locs ls hI hS hL
  have hq : Q = MQ below (zQc g post) args s i.2.2.2.2.2.1 i.2.2.2.2.2.2 (zA g) := hq
  subst hq
  refine W.widen hcl hsl ?_
  exact W.aret F.1 F.2.1 (F.2.2.2.2.1.trans hr) hrt hv (fun t ht hW => ⟨⟨_, ws, rfl, k, by rw [ht]; exact hI⟩, hS.F ht⟩) hS.2.2 hd F.2.2.2.2.2.1
end ZReturns
section ZCalls
/-- what the tables hold of a method of ours that is called with n arguments -/
def zM (i : zY) (n : Nat) : Prop := Cond.code i.1 i.2.1 i.2.2.1 i.2.2.2.1 ∈ ztb ∧ Cond.initialized i.1.cls ∈ ztb ∧ (i.1.cls ≠ "java/lang/invoke/MethodHandle" ∧ i.1.cls ≠ "java/lang/invoke/VarHandle") ∧ (parseMethodDescriptor i.1.desc).map (fun d => d.parameters.length) = some n ∧ i.2.2.1 ≤ 20
theorem zblind {g : zG} {av : List Value} {ws : va_W} : FrameBlind (zPc g av ws) := fun a U g0 mk h =>
  ⟨h.1, ⟨h.2.1.1.same (U := U.calling g0 mk a) rfl, h.2.1.2.1.same (U := U.calling g0 mk a) rfl, h.2.1.2.2⟩, h.2.2⟩
variable {x : zX} {g : zG} {i : zY} {pc : Nat} {loc : List (Option Value)} {st st0 : List Value} {ws : va_W} {cl sl : Nat}
theorem zpre {av : List Value} (F : zFx x g i) {H : Heap} {locs : List Loc} (hI : zI g ws H) (hS : va_S (zA g) x.2.2.1.heap H locs) : ∀ U : State, U.heap = H → x.2.2.1.WarmedH U.vm → zPc g av ws av.toArray U := by
  intro U hU hW
  obtain ⟨-, -, -, -, -, -, -, h1, h2, h3⟩ := F
  refine ⟨rfl, ⟨h1.warm hW, (h2.warm hW).kept (fun a ha hn => ?_), ?_⟩, ?_⟩
  · rw [hU]; exact hS.2.1 a ha hn
  · rw [hU]; exact Nat.le_trans h3 hS.1
  · rw [hU]; exact hI
theorem zcont {H : Heap} {locs : List Loc} {ls : Array Slot} {mc ms : Nat} {a : Array Value} {post : Option Value → va_W → Prop}
    (hr : va_Run x.1 g.1 x.2.1 (zR i) x.2.2.1 x.2.2.2.1 x.2.2.2.2.1 x.2.2.2.2.2.1 x.2.2.2.2.2.2.1 x.2.2.2.2.2.2.2.1 H locs cl sl mc ms (F0 x.2.2.2.1 pc ls st0) st (zQc g post a) (zA g))
    (F : zFx x g i) (hS : va_S (zA g) x.2.2.1.heap H locs) (hL : zL i.2.2.1 ls loc) (k : ∀ v ws', post v ws' → zW x g i (pc + 3) loc (v.toList ++ st) ws' (cl + mc) (sl + ms)) :
    W x.1 g.1 x.2.1 (zR i) x.2.2.1 x.2.2.2.1 x.2.2.2.2.1 x.2.2.2.2.2.1 x.2.2.2.2.2.2.1 x.2.2.2.2.2.2.2.1 H locs cl sl x.2.2.2.2.2.2.2.2 (F0 x.2.2.2.1 pc ls st0) := by
  intro T hT X
  obtain ⟨v, st₀, t, T', L, h0, X', hL', e1, e2, ⟨⟨v', ws', hv, hp, hI'⟩, hz, hk⟩, stp⟩ := hr T hT X
  cases hv
  rw [h0] at hz hk
  have hS' : va_S (zA g) x.2.2.1.heap T'.heap (locs ++ L) := by
    refine ⟨Nat.le_trans hS.1 (by rw [e1]; exact hz), fun q h1 h2 => ?_, fun q hq => ?_⟩
    · rw [e1]; exact (hk q (Nat.lt_of_lt_of_le h1 hS.1) h2).trans (hS.2.1 q h1 h2)
    · rcases List.mem_append.mp hq with h | h
      · exact hS.2.2 q h
      · exact hL' q h
  obtain ⟨t2, a1, b1⟩ := k v ws' hp F T'.heap (locs ++ L) ls (by rw [e1]; exact hI') hS' hL T' rfl X'
  exact ⟨t2, stp t2 a1, b1⟩
theorem zroom {i' : zY} {n : Nat} (hm : zM i' n) (hdep : i'.2.2.2.2.1 + 1 ≤ i.2.2.2.2.1) : (zR i').frames + 1 ≤ (zR i).frames ∧ 8 + (i'.2.2.1 + 11) + (zR i').locals ≤ (zR i).locals := by
  have h := hm.2.2.2.2
  refine ⟨hdep, ?_⟩
  show 8 + (i'.2.2.1 + 11) + 39 * i'.2.2.2.2.1 ≤ 39 * i.2.2.2.2.1
  omega
theorem zwarm {i' : zY} {n : Nat} (F : zFx x g i) (hm : zM i' n) : ∀ w ∈ [Cond.code i'.1 i'.2.1 i'.2.2.1 i'.2.2.2.1], ∀ (a' : Array Value) (U : State), x.2.2.1.WarmedH U.vm → w.before a' U = true := by
  intro w hw a' U hW
  rw [List.mem_singleton.mp hw]
  exact (F.2.2.2.2.2.2.2.1.warm hW).hts a' _ hm.1
theorem zpar {i' : zY} {n : Nat} (hm : zM i' n) : ∀ sig, parseMethodDescriptor i'.1.desc = some sig → n = sig.parameters.length := by
  intro sig h
  have h2 := hm.2.2.2.1
  rw [h] at h2
  exact (Option.some.inj h2).symm
theorem zcallB {i' : zY} {n idx : Nat} (F : zFx x g i) (hm : zM i' n) (hw : Cond.methodLink i.1.cls idx i'.1 ∈ ztb) (hdep : i'.2.2.2.2.1 + 1 ≤ i.2.2.2.2.1) :
    CallB (zR i) x.2.2.1 x.2.2.2.2.1 i.1.cls idx i'.1 i'.2.1 i'.2.2.1 i'.2.2.2.1 [Cond.code i'.1 i'.2.1 i'.2.2.1 i'.2.2.2.1] (zR i') i'.2.2.2.2.2.1 i'.2.2.2.2.2.2 n :=
  ⟨rfl, rfl, (zroom hm hdep).1, (zroom hm hdep).2, zwarm F hm, List.mem_singleton.mpr rfl, F.2.2.2.2.2.2.2.1.hts _ _ hm.1, F.2.2.2.2.2.2.2.1.hts _ _ hm.2.1, hm.2.2.1, zpar hm, F.2.2.2.2.2.2.2.1.hts _ _ hw⟩
theorem zcallN {i' : zY} {n idx : Nat} {host : String} (F : zFx x g i) (hm : zM i' n) (hw : Cond.methodLinkNest i.1.cls idx i'.1 host ∈ ztb) (hdep : i'.2.2.2.2.1 + 1 ≤ i.2.2.2.2.1) :
    va_CN (zR i) x.2.2.1 x.2.2.2.2.1 i.1.cls idx i'.1 host i'.2.1 i'.2.2.1 i'.2.2.2.1 [Cond.code i'.1 i'.2.1 i'.2.2.1 i'.2.2.2.1] (zR i') i'.2.2.2.2.2.1 i'.2.2.2.2.2.2 n :=
  ⟨⟨rfl, rfl, (zroom hm hdep).1, (zroom hm hdep).2, zwarm F hm, List.mem_singleton.mpr rfl⟩, F.2.2.2.2.2.2.2.1.hts _ _ hm.1, F.2.2.2.2.2.2.2.1.hts _ _ hm.2.1, hm.2.2.1, zpar hm, F.2.2.2.2.2.2.2.1.hts _ _ hw⟩
theorem zfix (F : zFx x g i) : CallFix x.1 x.2.2.2.1 x.2.2.2.2.2.2.2.1 i.2.1 i.2.2.1 x.2.2.1 x.2.2.2.2.1 ztb i.1.cls := ⟨F.1, F.2.1, F.2.2.1, F.2.2.2.1, F.2.2.2.2.2.2.2.1.hts _⟩
theorem zo_callV (c : Nat) {q : vw_C} (hc : zcl[c]? = some q) {i' : zY} {n idx a : Nat} {av fs : List Value} (hm : zM i' n) (hw : Cond.methodLink i.1.cls idx i'.1 ∈ ztb) (hw2 : Cond.instanceMethod i'.1 ∈ ztb) (hw3 : Cond.selects q.1 i'.1 i'.1 ∈ ztb) (hd : decode i.2.1 pc = .ok (.invokevirtual idx, 3)) (hn : av.length = n) (he : zget ws a = some (.inr (c, fs)))
    (hdep : i'.2.2.2.2.1 + 1 ≤ i.2.2.2.2.1) (hcl : cl + i'.2.2.2.2.2.1 ≤ i.2.2.2.2.2.1) (hsl : sl + i'.2.2.2.2.2.2 ≤ i.2.2.2.2.2.2) (hst : (st.map fun v => v.category).sum ≤ 8) (h0 : st0 = av.reverse ++ .ref a :: st)
    (k : zC g i' (.ref a :: av) ws (fun v ws' => zW x g i (pc + 3) loc (v.toList ++ st) ws' (cl + i'.2.2.2.2.2.1) (sl + i'.2.2.2.2.2.2))) : zW x g i pc loc st0 ws cl sl := by
  intro F H locs ls hI hS hL
  obtain ⟨u, hu⟩ := zget_idx he
  exact zcont (va_runV (zfix F) k ⟨zcallB F hm hw hdep, F.2.2.2.2.2.2.2.1.hts _ _ hw2, F.2.2.2.2.2.2.2.1.hts _ _ hw3⟩ ⟨zblind, va_recv F.2.2.2.2.2.2.2.1.2 hI.1 hc hu, zpre F hI hS⟩ rfl hn hL.1.1 h0 (lv_room hst) hd ⟨hcl, hsl⟩) F hS hL (fun v ws' h => h)
theorem zo_callVN (c : Nat) {q : vw_C} (hc : zcl[c]? = some q) {i' : zY} {n idx a : Nat} {av fs : List Value} {host : String} (hm : zM i' n) (hw : Cond.methodLinkNest i.1.cls idx i'.1 host ∈ ztb) (hw2 : Cond.instanceMethod i'.1 ∈ ztb) (hw3 : Cond.selects q.1 i'.1 i'.1 ∈ ztb) (hd : decode i.2.1 pc = .ok (.invokevirtual idx, 3)) (hn : av.length = n) (he : zget ws a = some (.inr (c, fs)))
    (hdep : i'.2.2.2.2.1 + 1 ≤ i.2.2.2.2.1) (hcl : cl + i'.2.2.2.2.2.1 ≤ i.2.2.2.2.2.1) (hsl : sl + i'.2.2.2.2.2.2 ≤ i.2.2.2.2.2.2) (hst : (st.map fun v => v.category).sum ≤ 8) (h0 : st0 = av.reverse ++ .ref a :: st)
    (k : zC g i' (.ref a :: av) ws (fun v ws' => zW x g i (pc + 3) loc (v.toList ++ st) ws' (cl + i'.2.2.2.2.2.1) (sl + i'.2.2.2.2.2.2))) : zW x g i pc loc st0 ws cl sl := by
  intro F H locs ls hI hS hL
  obtain ⟨u, hu⟩ := zget_idx he
  exact zcont (va_runVN (zfix F) k ⟨zcallN F hm hw hdep, F.2.2.2.2.2.2.2.1.hts _ _ hw2, F.2.2.2.2.2.2.2.1.hts _ _ hw3⟩ ⟨zblind, va_recv F.2.2.2.2.2.2.2.1.2 hI.1 hc hu, zpre F hI hS⟩ rfl hn hL.1.1 h0 (lv_room hst) hd ⟨hcl, hsl⟩) F hS hL (fun v ws' h => h)
theorem zo_callS {i' : zY} {n idx : Nat} {av : List Value} (hm : zM i' n) (hw : Cond.methodLink i.1.cls idx i'.1 ∈ ztb) (hw2 : Cond.static i'.1 ∈ ztb) (hd : decode i.2.1 pc = .ok (.invokestatic idx, 3)) (hn : av.length = n)
    (hdep : i'.2.2.2.2.1 + 1 ≤ i.2.2.2.2.1) (hcl : cl + i'.2.2.2.2.2.1 ≤ i.2.2.2.2.2.1) (hsl : sl + i'.2.2.2.2.2.2 ≤ i.2.2.2.2.2.2) (hst : (st.map fun v => v.category).sum ≤ 8) (h0 : st0 = av.reverse ++ st)
    (k : zC g i' av ws (fun v ws' => zW x g i (pc + 3) loc (v.toList ++ st) ws' (cl + i'.2.2.2.2.2.1) (sl + i'.2.2.2.2.2.2))) : zW x g i pc loc st0 ws cl sl := by
  intro F H locs ls hI hS hL
  exact zcont (va_runS (zfix F) k ⟨zcallB F hm hw hdep, F.2.2.2.2.2.2.2.1.hts _ _ hw2⟩ ⟨zblind, zpre F hI hS⟩ rfl hn hL.1.1 h0 (lv_room hst) hd ⟨hcl, hsl⟩) F hS hL (fun v ws' h => h)
theorem zo_callSN {i' : zY} {n idx : Nat} {av : List Value} {host : String} (hm : zM i' n) (hw : Cond.methodLinkNest i.1.cls idx i'.1 host ∈ ztb) (hw2 : Cond.static i'.1 ∈ ztb) (hd : decode i.2.1 pc = .ok (.invokestatic idx, 3)) (hn : av.length = n)
    (hdep : i'.2.2.2.2.1 + 1 ≤ i.2.2.2.2.1) (hcl : cl + i'.2.2.2.2.2.1 ≤ i.2.2.2.2.2.1) (hsl : sl + i'.2.2.2.2.2.2 ≤ i.2.2.2.2.2.2) (hst : (st.map fun v => v.category).sum ≤ 8) (h0 : st0 = av.reverse ++ st)
    (k : zC g i' av ws (fun v ws' => zW x g i (pc + 3) loc (v.toList ++ st) ws' (cl + i'.2.2.2.2.2.1) (sl + i'.2.2.2.2.2.2))) : zW x g i pc loc st0 ws cl sl := by
  intro F H locs ls hI hS hL
  exact zcont (va_runSN (zfix F) k ⟨zcallN F hm hw hdep, F.2.2.2.2.2.2.2.1.hts _ _ hw2, trivial⟩ ⟨zblind, zpre F hI hS⟩ rfl hn hL.1.1 h0 (lv_room hst) hd ⟨hcl, hsl⟩) F hS hL (fun v ws' h => h)
theorem zo_callI {i' : zY} {n idx a : Nat} {av : List Value} (hm : zM i' n) (hret : i'.2.2.2.1 = none) (hname : i'.1.name = "<init>") (hw : Cond.methodLink i.1.cls idx i'.1 ∈ ztb) (hw2 : Cond.instanceMethod i'.1 ∈ ztb) (hd : decode i.2.1 pc = .ok (.invokespecial idx, 3)) (hn : av.length = n)
    (hdep : i'.2.2.2.2.1 + 1 ≤ i.2.2.2.2.1) (hcl : cl + i'.2.2.2.2.2.1 ≤ i.2.2.2.2.2.1) (hsl : sl + i'.2.2.2.2.2.2 ≤ i.2.2.2.2.2.2) (hst : (st.map fun v => v.category).sum ≤ 8) (h0 : st0 = av.reverse ++ .ref a :: st)
    (k : zC g i' (.ref a :: av) ws (fun v ws' => zW x g i (pc + 3) loc (v.toList ++ st) ws' (cl + i'.2.2.2.2.2.1) (sl + i'.2.2.2.2.2.2))) : zW x g i pc loc st0 ws cl sl := by
  obtain ⟨y, cc, nL, ret, d, mc, ms⟩ := i'
  have hret : ret = none := hret
  subst hret
  intro F H locs ls hI hS hL
  exact zcont (va_runI (zfix F) k ⟨zcallB F hm hw hdep, hname, F.2.2.2.2.2.2.2.1.hts _ _ hw2⟩ ⟨zblind, zpre F hI hS⟩ rfl hn hL.1.1 h0 (lv_room hst) hd ⟨hcl, hsl⟩) F hS hL (fun v ws' h => h)
theorem zo_callIN {i' : zY} {n idx a : Nat} {av : List Value} {host : String} (hm : zM i' n) (hret : i'.2.2.2.1 = none) (hname : i'.1.name = "<init>") (hw : Cond.methodLinkNest i.1.cls idx i'.1 host ∈ ztb) (hw2 : Cond.instanceMethod i'.1 ∈ ztb) (hd : decode i.2.1 pc = .ok (.invokespecial idx, 3)) (hn : av.length = n)
    (hdep : i'.2.2.2.2.1 + 1 ≤ i.2.2.2.2.1) (hcl : cl + i'.2.2.2.2.2.1 ≤ i.2.2.2.2.2.1) (hsl : sl + i'.2.2.2.2.2.2 ≤ i.2.2.2.2.2.2) (hst : (st.map fun v => v.category).sum ≤ 8) (h0 : st0 = av.reverse ++ .ref a :: st)
    (k : zC g i' (.ref a :: av) ws (fun v ws' => zW x g i (pc + 3) loc (v.toList ++ st) ws' (cl + i'.2.2.2.2.2.1) (sl + i'.2.2.2.2.2.2))) : zW x g i pc loc st0 ws cl sl := by
  obtain ⟨y, cc, nL, ret, d, mc, ms⟩ := i'
  have hret : ret = none := hret
  subst hret
  intro F H locs ls hI hS hL
  exact zcont (va_runIN (zfix F) k ⟨zcallN F hm hw hdep, hname, F.2.2.2.2.2.2.2.1.hts _ _ hw2⟩ ⟨zblind, zpre F hI hS⟩ rfl hn hL.1.1 h0 (lv_room hst) hd ⟨hcl, hsl⟩) F hS hL (fun v ws' h => h)
theorem zo_objInit {idx a : Nat} (hw : Cond.methodLink i.1.cls idx Lib.objectInit ∈ ztb) (hw2 : Cond.instanceMethod Lib.objectInit ∈ ztb) (hw3 : Cond.code Lib.objectInit ⟨#[0xb1]⟩ 1 none ∈ ztb) (hd : decode i.2.1 pc = .ok (.invokespecial idx, 3)) (hdep : 1 ≤ i.2.2.2.2.1) (hst : (st.map fun v => v.category).sum ≤ 8) (k : zW x g i (pc + 3) loc st ws cl sl) : zW x g i pc loc (.ref a :: st) ws cl sl := by
  intro F H locs ls hI hS hL
  refine W.objInit F.1 F.2.1 F.2.2.2.1 (F.2.2.2.2.2.2.2.1.hts _ _ hw) (F.2.2.2.2.2.2.2.1.hts _ _ hw2) (F.2.2.2.2.2.2.2.1.hts _ _ hw3) rfl (hL.1.1.trans F.2.2.1.symm) rfl hd hdep ?_ (k F H locs ls hI hS hL)
  have := lv_room (m := x.2.2.2.1) (pc := pc) (ls := ls) (rest := .ref a :: st) hst
  show _ + 12 ≤ 39 * i.2.2.2.2.1
  omega
theorem zo_copy {idx a m : Nat} {f : Nat → Option Nat} {sp dp n : Int32} (c : Nat) {q : vw_C} (hc : zcl[c]? = some q) (hw : Cond.methodLink i.1.cls idx arraycopyName ∈ ztb) (hw2 : Cond.native arraycopyName ∈ ztb) (hw3 : Cond.static arraycopyName ∈ ztb) (hw4 : Cond.initialized "java/lang/System" ∈ ztb) (hw5 : Cond.castable q.1 "java/lang/Object" ∈ ztb)
    (hd : decode i.2.1 pc = .ok (.invokestatic idx, 3)) (he : zget ws a = some (.inl (g.2.2.1.2.1, m, .inr (.inr (.inr (.inr f)))))) (h1 : ¬ sp < 0) (h2 : ¬ dp < 0) (h3 : ¬ n < 0) (h4 : sp.toNatClampNeg + n.toNatClampNeg ≤ m) (h5 : dp.toNatClampNeg + n.toNatClampNeg ≤ m)
    (hel : ∀ j : Nat, j < n.toNatClampNeg → ∀ b : Nat, f (sp.toNatClampNeg + j) = some b → ∃ fs, zget ws b = some (.inr (c, fs))) (hdep : 1 ≤ i.2.2.2.2.1) (hst : (st.map fun v => v.category).sum ≤ 8)
    (k : zW x g i (pc + 3) loc st (zset ws a (.inl (g.2.2.1.2.1, m, .inr (.inr (.inr (.inr (va_cpy f f sp.toNatClampNeg dp.toNatClampNeg n.toNatClampNeg))))))) cl sl) : zW x g i pc loc (.int n :: .int dp :: .ref a :: .int sp :: .ref a :: st) ws cl sl := by
  intro F H locs ls hI hS hL
  obtain ⟨u, hu⟩ := zget_idx he
  refine va_copyq (C := q.1) F.1 F.2.1 (F.2.2.1.trans hL.1.1.symm) F.2.2.2.1 (F.2.2.2.2.2.2.2.1.hts _ _ hw) (F.2.2.2.2.2.2.2.1.hts _ _ hw2) (F.2.2.2.2.2.2.2.1.hts _ _ hw3) (F.2.2.2.2.2.2.2.1.hts _ _ hw4) F.2.2.2.2.2.2.2.1.2 hI.1 hI.2 hS u u 1 1 hu hu rfl rfl h1 h2 h3 h4 h5 (fun j hj b hb => ?_) (fun comp c0 e1 e2 => ?_) hdep ?_ hd (fun H1 locs1 k1 k2 k3 => ?_)
  · obtain ⟨fs, hfs⟩ := hel j hj b hb
    obtain ⟨v, hv⟩ := zget_idx hfs
    exact va_recv F.2.2.2.2.2.2.2.1.2 hI.1 hc hv
  · obtain ⟨c1, t1, f1, f2, f3⟩ := Cond.castable_spec (F.2.2.2.2.2.2.2.1.hts x.2.2.2.2.1 _ hw5)
    cases e2.symm.trans f1
    cases e1.symm.trans f2
    exact f3
  · show _ ≤ 39 * i.2.2.2.2.1
    have e : nativeFrameWords "java/lang/System" "arraycopy" 5 + 11 ≤ 31 := by decide +kernel
    omega
  · rw [zset_idx hI.2 hu] at k1 k2
    exact k F H1 locs1 ls ⟨k1, k2⟩ k3 hL
end ZCalls
