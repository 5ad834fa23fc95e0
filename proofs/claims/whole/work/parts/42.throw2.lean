/-! The throw itself: the object is made, its constructor runs, it is thrown out of a method without handlers. -/
section ZThrow3
theorem z_ldcw {p : Program} {l : Launch} {e : Env} {R : Room} {s : State} {m : MethodId} {args : Array Value} {below : List Frame} {meth : Method} {c : Code} {H : Heap} {locs : List Loc} {cells slots : Nat} {Q : State → Prop} {cc : ByteArray} {pc : Nat} {ls : Array Slot} {rest : List Value}
    (hexec : p.tables.exec = Jvm.exec) (hb : c.code = cc) {own tx : String} {index q : Nat} (hown : s.vm.findClass own = some m.cls) (hZ : vk_R own index tx q s) (hdg : decode cc pc = .ok (.ldc_w index, 3))
    (k : W p l e R s m args below meth c H locs cells slots Q (F0 m (pc + 3) ls (.ref q :: rest))) : W p l e R s m args below meth c H locs cells slots Q (F0 m pc ls rest) := by
  intro T hT X
  obtain ⟨t, a1, b1⟩ := k T hT X
  refine ⟨t, ?_, b1⟩
  obtain ⟨k, cf, i, a', hk, hcf, hcp, -, hr, hev'⟩ := Cond.stringRef_spec hown hZ.1
  cases hZ.2.symm.trans hev'
  obtain ⟨k', hk', he⟩ := X.warmed.alike.2.2 _ _ hk
  have hr' : k'.resolved[index]? = some (some (.string q)) := by
    rcases X.warmed.entry hk hk' index with h | ⟨h, -⟩
    · rw [h]; exact hr
    · rw [hr] at h; cases h
  jvm_step X.here [hexec, hb, hdg, ldc_w.wp_string (e := e) (s := T) (f := F0 m pc ls rest) X.here.top hk' (by rw [he]; exact hcf) hcp hr']
  exact a1
variable {x : zX} {g : zG} {i : zY} {pc : Nat} {loc : List (Option Value)} {ws : va_W} {cl sl : Nat} {X : String}
/-- the constructor and the throw -/
theorem zt_end {H : Heap} {locs : List Loc} {ls : Array Slot} {a q ic : Nat} {cC : ClassId} {kC : Class} {names : List String} (hq : zQx x g i ws X) (hE : zEx x) (hnt : g.1.stackTraces = false) (F : zFx x g i) (h0 : zI g ws x.2.2.1.heap) (hLo : ∀ r ∈ locs, x.2.2.1.heap.size ≤ r.base) (hsz : ls.size = i.2.2.1)
    (hat : ∀ w ∈ Bundle.ownAtoms i.1.cls ic X names, w ∈ ztb ∨ w ∈ zvw) (hX : Bundle.fit X = true) (hN : ∀ n ∈ names, Bundle.fit n = true) (e1 : x.2.2.1.vm.findClass X = some cC) (e2 : x.2.2.1.vm.classes[cC]? = some kC) (hcell : H[a]? = some (freshCell cC kC)) (hnew : x.2.2.1.heap.size ≤ a)
    (hd3 : decode i.2.1 pc = .ok (.invokespecial ic, 3)) (hd4 : decode i.2.1 (pc + 3) = .ok (.athrow, 1)) (hfr : names.length + 3 < i.2.2.2.2.1) (hcl : cl ≤ i.2.2.2.2.2.1) (hsl : sl ≤ i.2.2.2.2.2.2) :
    W x.1 g.1 x.2.1 (zR i) x.2.2.1 x.2.2.2.1 x.2.2.2.2.1 x.2.2.2.2.2.1 x.2.2.2.2.2.2.1 x.2.2.2.2.2.2.2.1 H locs cl sl x.2.2.2.2.2.2.2.2 (F0 x.2.2.2.1 pc ls [.ref q, .ref a, .ref a]) := by
  obtain ⟨p, e, s, m, args, below, meth, c, Q⟩ := x
  have hq : Q = fun t => ∃ o, t.status = .running ∧ Ended t below o ∧ zQT g ws X i.2.2.2.2.2.1 i.2.2.2.2.2.2 s o t := hq
  subst hq
  obtain ⟨f1, f2, f3, f4, f5, f6, f7, f8, f9, f10⟩ := F
  intro T hT Y
  have htr : e.platform.stackTraces = false := by rw [Y.admits.platform]; exact hnt
  have hb : c.code = i.2.1 := f2
  obtain ⟨U, st, hrun, hend, hW, hsame, ce, hce, oc⟩ := Y.ctorThrowS f1 htr (own := i.1.cls) (cls := X) (names := names) (ic := ic) f4 hX hN
    (fun w hw => by
      rcases hat w hw with h | h
      · exact f8.hts args w h
      · exact zvw_at f9.2.2 w h)
    (fun r hr cell hc => by
      have h1 := hLo r hr
      have h2 := (Array.getElem?_eq_some_iff.mp hc).1
      exact absurd h2 (Nat.not_lt.mpr h1))
    e1 e2 (by rw [hT]; exact hcell) hnew (msg := .ref q) rfl (g := F0 m pc ls [.ref q, .ref a, .ref a]) rfl (hsz.trans f3.symm) rfl rfl (rest := []) rfl (by rw [hb]; exact hd3) (by rw [hb]; exact hd4) (fun r hr => hE r hr _)
    hfr (by
      show 2 * 0 + _ + _ ≤ 39 * i.2.2.2.2.1
      simp only [List.map_cons, List.map_nil, List.sum_cons, List.sum_nil, Value.category]
      omega) f6
  have hold := zold hsame hLo
  refine ⟨U, st, _, hrun, hend, a, rfl, h0.kept hold, ⟨ce, hce, oc.vm, oc.cls⟩, ⟨hsame.2.1, fun r hr _ => hold r hr⟩, locs, ⟨hW, hsame.mono hcl hsl⟩, fun r hr => Nat.le_trans f10 (hLo r hr)⟩
/-- a throw with a text that stands far in the pool -/
theorem zt_throw {n ks ic : Nat} {tx : String} {names : List String} (hq : zQx x g i ws X) (hE : zEx x) (hnt : g.1.stackTraces = false) (F : zFx x g i) (h0 : zI g ws x.2.2.1.heap) (hown : i.1.cls = "LinkHost") (hs : (ks, tx) ∈ zstr)
    (hat : ∀ w ∈ Bundle.ownAtoms i.1.cls ic X names, w ∈ ztb ∨ w ∈ zvw) (hX : Bundle.fit X = true) (hN : ∀ n ∈ names, Bundle.fit n = true) (hw1 : Cond.classLink i.1.cls n X ∈ ztb) (hw2 : Cond.instantiable X 6 ∈ ztb) (hw3 : Cond.initialized X ∈ ztb)
    (hd0 : decode i.2.1 pc = .ok (.new n, 3)) (hd1 : decode i.2.1 (pc + 3) = .ok (.dup, 1)) (hd2 : decode i.2.1 (pc + 4) = .ok (.ldc_w ks, 3)) (hd3 : decode i.2.1 (pc + 7) = .ok (.invokespecial ic, 3)) (hd4 : decode i.2.1 (pc + 10) = .ok (.athrow, 1)) (hfr : names.length + 3 < i.2.2.2.2.1) (hcl : cl + 1 ≤ i.2.2.2.2.2.1) (hsl : sl + 6 ≤ i.2.2.2.2.2.2) :
    zW x (zgs g x.2.2.1.heap.size) i pc loc [] [] cl sl := by
  intro F' H locs ls hI hS hL
  have hts := F.2.2.2.2.2.2.2.1.hts x.2.2.2.2.1
  obtain ⟨q, hZ⟩ := F.2.2.2.2.2.2.2.2.1.2.2.2.2.1 (ks, tx) hs
  have hZ : vk_R i.1.cls ks tx q x.2.2.1 := by rw [hown]; exact hZ
  refine W.newc F.1 F.2.1 (own := i.1.cls) F.2.2.2.1 (hts _ hw1) (hts _ hw2) (hts _ hw3) (g := F0 x.2.2.2.1 pc ls []) rfl hd0 hcl hsl (fun cC kC e1 e2 e3 e4 => ?_)
  refine lv_dup F.1 F.2.1 hd1 rfl ?_
  refine z_ldcw F.1 F.2.1 F.2.2.2.1 hZ hd2 ?_
  refine zt_end (g := g) (ws := ws) (X := X) hq hE hnt F h0 (fun r hr => hS.2.2 r hr) hL.1.1 hat hX hN e1 e2 ?_ hS.1 hd3 hd4 hfr hcl hsl
  rw [Array.getElem?_push, if_pos rfl]
/-- a throw with a text that stands near in the pool -/
theorem zt_throwN {n ks ic : Nat} {tx : String} {names : List String} (hq : zQx x g i ws X) (hE : zEx x) (hnt : g.1.stackTraces = false) (F : zFx x g i) (h0 : zI g ws x.2.2.1.heap) (hown : i.1.cls = "LinkHost") (hs : (ks, tx) ∈ zstr)
    (hat : ∀ w ∈ Bundle.ownAtoms i.1.cls ic X names, w ∈ ztb ∨ w ∈ zvw) (hX : Bundle.fit X = true) (hN : ∀ n ∈ names, Bundle.fit n = true) (hw1 : Cond.classLink i.1.cls n X ∈ ztb) (hw2 : Cond.instantiable X 6 ∈ ztb) (hw3 : Cond.initialized X ∈ ztb)
    (hd0 : decode i.2.1 pc = .ok (.new n, 3)) (hd1 : decode i.2.1 (pc + 3) = .ok (.dup, 1)) (hd2 : decode i.2.1 (pc + 4) = .ok (.ldc ks, 2)) (hd3 : decode i.2.1 (pc + 6) = .ok (.invokespecial ic, 3)) (hd4 : decode i.2.1 (pc + 9) = .ok (.athrow, 1)) (hfr : names.length + 3 < i.2.2.2.2.1) (hcl : cl + 1 ≤ i.2.2.2.2.2.1) (hsl : sl + 6 ≤ i.2.2.2.2.2.2) :
    zW x (zgs g x.2.2.1.heap.size) i pc loc [] [] cl sl := by
  intro F' H locs ls hI hS hL
  have hts := F.2.2.2.2.2.2.2.1.hts x.2.2.2.2.1
  obtain ⟨q, hZ⟩ := F.2.2.2.2.2.2.2.2.1.2.2.2.2.1 (ks, tx) hs
  have hZ : vk_R i.1.cls ks tx q x.2.2.1 := by rw [hown]; exact hZ
  refine W.newc F.1 F.2.1 (own := i.1.cls) F.2.2.2.1 (hts _ hw1) (hts _ hw2) (hts _ hw3) (g := F0 x.2.2.2.1 pc ls []) rfl hd0 hcl hsl (fun cC kC e1 e2 e3 e4 => ?_)
  refine lv_dup F.1 F.2.1 hd1 rfl ?_
  refine va_ldcS F.1 F.2.1 F.2.2.2.1 hZ hd2 ?_
  refine zt_end (g := g) (ws := ws) (X := X) hq hE hnt F h0 (fun r hr => hS.2.2 r hr) hL.1.1 hat hX hN e1 e2 ?_ hS.1 hd3 hd4 hfr hcl hsl
  rw [Array.getElem?_push, if_pos rfl]
end ZThrow3
