/-! Walks that write nothing that was there: reading what was there; the three that refuse, and a full header. -/
section ZOwn
variable {x : zX} {g : zG} {i : zY} {pc n0 : Nat} {loc : List (Option Value)} {st st0 : List Value} {ws : va_W} {cl sl : Nat}
theorem zown {H : Heap} {locs : List Loc} (h0 : zI g ws x.2.2.1.heap) (hlt : ∀ (k : Nat) (q : Nat × va_E), ws[k]? = some q → q.1 < n0) (hS : va_S (zA (zgs g n0)) x.2.2.1.heap H locs) : va_P g.2.1 zcl ws H :=
  h0.1.kept fun k q hk => hS.2.1 q.1 (h0.1 k q hk).lt (fun hA => absurd hA (Nat.not_le.mpr (hlt k q hk)))
theorem zx_get (c f : Nat) {q : vw_C} (hc : zcl[c]? = some q) (ho : zclok q) (hf : f < q.2.2) {n : Nat} {ref : String} (hw : Cond.fieldLink i.1.cls n ref (q.2.1 f).2.1 (q.2.1 f).2.2.1 ∈ ztb) (hd : decode i.2.1 pc = .ok (.getfield n, 3)) (hs : ∀ U : State, zT g.2.1 g.2.2.1 U → ∀ z, U.fieldFound? (q.2.1 f).1 (q.2.1 f).2.1 (q.2.1 f).2.2.1 = some z → U.fieldFound? ref (q.2.1 f).2.1 (q.2.1 f).2.2.1 = some z) {a : Nat} {fs : List Value} {v : Value}
    (h0 : zI g ws x.2.2.1.heap) (hlt : ∀ (k : Nat) (q : Nat × va_E), ws[k]? = some q → q.1 < n0) (he : zget ws a = some (.inr (c, fs))) (hv : fs[f]? = some v) (k : zW x (zgs g n0) i (pc + 3) loc (v :: st) [] cl sl) : zW x (zgs g n0) i pc loc (.ref a :: st) [] cl sl := by
  intro F H locs ls hI hS hL
  obtain ⟨t, ht⟩ := zget_idx he
  exact va_get F.1 F.2.1 (F.2.2.2.2.2.2.2.1.hts x.2.2.2.2.1) ho.1 F.2.2.2.1 F.2.2.2.2.2.2.2.1.2 (zown (x := x) (g := g) h0 hlt hS) t ht hc f hf ((F.2.2.2.2.2.2.2.1.hts x.2.2.2.2.1) _ hw) (hs _ F.2.2.2.2.2.2.2.1) hv hd (k F H locs ls hI hS hL)
/-- a contract that reads what was there, and writes nothing of it -/
def zCR (g : zG) (n0 : Nat) (i : zY) (av : List Value) (ws : va_W) (post : Option Value → va_W → Prop) : Prop :=
  Met g.1 i.1 [.code i.1 i.2.1 i.2.2.1 i.2.2.2.1] (zR i) (fun a U => zPc (zgs g n0) av [] a U ∧ zI g ws U.heap) (zQc (zgs g n0) post) i.2.2.2.2.2.1 i.2.2.2.2.2.2 (zA (zgs g n0))
theorem zCR.intro {i : zY} {av : List Value} {post : Option Value → va_W → Prop} (hy : plainFor i.1 = true) (hc : zcat1 av = true) (hn : av.length ≤ i.2.2.1)
    (body : ∀ x : zX, zQ x (zgs g n0) i post → zI g ws x.2.2.1.heap → zW x (zgs g n0) i 0 (zloc av i.2.2.1) [] [] 0 0) : zCR g n0 i av ws post := by
  obtain ⟨y, cc, nL, ret, d, mc, ms⟩ := i
  refine va_MetF (cc := cc) (maxL := nL) (ret := ret) hy rfl ?_
  intro p e s m args below meth c s₁ B hml hv
  obtain ⟨⟨rfl, hH, hI⟩, h0⟩ := hv
  have hlen := zsl_len av (zcat1_all hc)
  have hl := lv_entry av (n := nL) (by rw [hlen]; exact hn)
  rw [lg_entry_eq]
  generalize (lg_sl av ++ List.replicate (nL - (lg_sl av).length) Slot.unset).toArray = ls at hl ⊢
  have hF : zFx (p, e, s, m, av.toArray, below, meth, c, MQ below (zQc (zgs g n0) post) av.toArray s mc ms (zA (zgs g n0))) (zgs g n0) (y, cc, nL, ret, d, mc, ms) :=
    ⟨B.exec, B.bytes, hml, findClass_of_methodNamed B.named, B.returns, B.notSynchronized, (name_of_methodNamed B.named B.method).1, hH⟩
  refine body (p, e, s, m, av.toArray, below, meth, c, MQ below (zQc (zgs g n0) post) av.toArray s mc ms (zA (zgs g n0))) rfl h0 hF s.heap [] ls hI va_S.rf ⟨?_, fun v hv => ?_⟩
  · show lv_has ls nL (zpr 0 (zloc av nL))
    unfold zloc
    rw [zpr_app av 0 _ (zcat1_all hc)]
    exact hl
  · have hv : some v ∈ av.map some ++ List.replicate (nL - av.length) none := hv
    rcases List.mem_append.mp hv with h | h
    · obtain ⟨w, hw, e⟩ := List.mem_map.mp h
      cases e
      exact zcat1_all hc _ hw
    · exact absurd (List.eq_of_mem_replicate h) (by simp)
theorem zx_callVN (c : Nat) {q : vw_C} (hc : zcl[c]? = some q) {i' : zY} {n idx a : Nat} {av fs : List Value} {host : String} (hm : zM i' n) (hw : Cond.methodLinkNest i.1.cls idx i'.1 host ∈ ztb) (hw2 : Cond.instanceMethod i'.1 ∈ ztb) (hw3 : Cond.selects q.1 i'.1 i'.1 ∈ ztb) (hd : decode i.2.1 pc = .ok (.invokevirtual idx, 3)) (hn : av.length = n)
    (h0 : zI g ws x.2.2.1.heap) (hlt : ∀ (k : Nat) (q : Nat × va_E), ws[k]? = some q → q.1 < n0) (he : zget ws a = some (.inr (c, fs)))
    (hdep : i'.2.2.2.2.1 + 1 ≤ i.2.2.2.2.1) (hcl : cl + i'.2.2.2.2.2.1 ≤ i.2.2.2.2.2.1) (hsl : sl + i'.2.2.2.2.2.2 ≤ i.2.2.2.2.2.2) (hst : (st.map fun v => v.category).sum ≤ 8) (hh : st0 = av.reverse ++ .ref a :: st)
    (k : zCR g n0 i' (.ref a :: av) ws (fun v ws' => zW x (zgs g n0) i (pc + 3) loc (v.toList ++ st) ws' (cl + i'.2.2.2.2.2.1) (sl + i'.2.2.2.2.2.2))) : zW x (zgs g n0) i pc loc st0 [] cl sl := by
  intro F H locs ls hI hS hL
  obtain ⟨u, hu⟩ := zget_idx he
  have hP := zown h0 hlt hS
  exact zcont (va_runVN (zfix F) k ⟨zcallN F hm hw hdep, F.2.2.2.2.2.2.2.1.hts _ _ hw2, F.2.2.2.2.2.2.2.1.hts _ _ hw3⟩ ⟨fun a U g0 mk h => ⟨zblind a U g0 mk h.1, h.2⟩, va_recv F.2.2.2.2.2.2.2.1.2 hP hc hu, fun U hU hW => ⟨zpre F hI hS U hU hW, by rw [hU]; exact ⟨hP, h0.2⟩⟩⟩ rfl hn hL.1.1 hh (lv_room hst) hd ⟨hcl, hsl⟩) F hS hL (fun v ws' h => h)
theorem zlt_of (h0 : zI g ws x.2.2.1.heap) : ∀ (k : Nat) (q : Nat × va_E), ws[k]? = some q → q.1 < x.2.2.1.heap.size := fun k q hk => (h0.1 k q hk).lt
end ZOwn
theorem zfit_up : ∀ n ∈ zup, Bundle.fit n = true := by decide +kernel
theorem t_Ho_requireArguments {g : zG} {ws : va_W} (hnt : g.1.stackTraces = false) {b : Int32} (hb : b = 0) : zCT g i_Ho_requireArguments [.int b] ws "java/lang/IllegalArgumentException" := by
  refine zCT.own (by decide +kernel) rfl (Nat.le_of_ble_eq_true rfl) fun x0 hq hE F h0 => ?_
  refine zo_iload_n (i := i_Ho_requireArguments) (pc := 0) d_Ho_requireArguments_0 rfl ?_
  refine zo_if_ne (i := i_Ho_requireArguments) (pc := 1) (tgt := 15) d_Ho_requireArguments_1 (by decide) (fun h1 => absurd hb h1) (fun h1 => ?_)
  exact zt_throw (i := i_Ho_requireArguments) (pc := 4) (names := zup) (tx := "an argument is out of its range") hq hE hnt F h0 rfl (List.mem_of_getElem? (i := 1) rfl) zat_IA (by decide +kernel) zfit_up (ztb_of k_365 rfl) (ztb_of k_366 rfl) (ztb_of k_19 rfl) d_Ho_requireArguments_4 d_Ho_requireArguments_7 d_Ho_requireArguments_8 d_Ho_requireArguments_11 d_Ho_requireArguments_14 (Nat.le_of_ble_eq_true rfl) (Nat.le_of_ble_eq_true rfl) (Nat.le_of_ble_eq_true rfl)
theorem t_Ho_requireIndex {g : zG} {ws : va_W} (hnt : g.1.stackTraces = false) {a b : Int32} (hb : ¬ (¬ a < 0 ∧ a < b)) : zCT g i_Ho_requireIndex [.int a, .int b] ws "java/lang/IndexOutOfBoundsException" := by
  refine zCT.own (by decide +kernel) rfl (Nat.le_of_ble_eq_true rfl) fun x0 hq hE F h0 => ?_
  have hth : zW x0 (zgs g x0.2.2.1.heap.size) i_Ho_requireIndex 9 (zloc [.int a, .int b] 2) [] [] 0 0 := zt_throw (i := i_Ho_requireIndex) (pc := 9) (names := zup) (tx := "there is none with this index") hq hE hnt F h0 rfl (List.mem_of_getElem? (i := 2) rfl) zat_IO (by decide +kernel) zfit_up (ztb_of k_786 rfl) (ztb_of k_787 rfl) (ztb_of k_25 rfl) d_Ho_requireIndex_9 d_Ho_requireIndex_12 d_Ho_requireIndex_13 d_Ho_requireIndex_16 d_Ho_requireIndex_19 (Nat.le_of_ble_eq_true rfl) (Nat.le_of_ble_eq_true rfl) (Nat.le_of_ble_eq_true rfl)
  refine zo_iload_n (i := i_Ho_requireIndex) (pc := 0) d_Ho_requireIndex_0 rfl ?_
  refine zo_if_lt (i := i_Ho_requireIndex) (pc := 1) (tgt := 9) d_Ho_requireIndex_1 (by decide) (fun h1 => hth) (fun h1 => ?_)
  refine zo_iload_n (i := i_Ho_requireIndex) (pc := 4) d_Ho_requireIndex_4 rfl ?_
  refine zo_iload_n (i := i_Ho_requireIndex) (pc := 5) d_Ho_requireIndex_5 rfl ?_
  exact zo_icmp_lt (i := i_Ho_requireIndex) (pc := 6) (tgt := 20) d_Ho_requireIndex_6 (by decide) (fun h6 => absurd ⟨h1, h6⟩ hb) (fun h6 => hth)
theorem t_Ho_requireUp {g : zG} {ws : va_W} (hnt : g.1.stackTraces = false) {A : Nat → Nat} {s : hSc} (he : zget ws (A 0) = some (hoC A s).2) (hu : s.2.2.2.2.2.2 = true) : zCT g i_Ho_requireUp [.ref (A 0)] ws "java/lang/IllegalStateException" := by
  refine zCT.own (by decide +kernel) rfl (Nat.le_of_ble_eq_true rfl) fun x0 hq hE F h0 => ?_
  refine zo_aload_n (i := i_Ho_requireUp) (pc := 0) d_Ho_requireUp_0 rfl rfl ?_
  refine zx_get (i := i_Ho_requireUp) (pc := 1) 9 13 rfl zok_Ho (Nat.le_of_ble_eq_true rfl) (ztb_of k_275 rfl) d_Ho_requireUp_1 (fun _ _ _ h => h) h0 (zlt_of h0) he rfl ?_
  refine zo_if_eq (i := i_Ho_requireUp) (pc := 4) (tgt := 18) d_Ho_requireUp_4 (by decide) (fun h4 => absurd h4 (by rw [hu]; decide)) (fun h4 => ?_)
  exact zt_throw (i := i_Ho_requireUp) (pc := 7) (names := zup) (tx := "the host is down") hq hE hnt F h0 rfl (List.mem_of_getElem? (i := 3) rfl) zat_IS (by decide +kernel) zfit_up (ztb_of k_519 rfl) (ztb_of k_520 rfl) (ztb_of k_22 rfl) d_Ho_requireUp_7 d_Ho_requireUp_10 d_Ho_requireUp_11 d_Ho_requireUp_14 d_Ho_requireUp_17 (Nat.le_of_ble_eq_true rfl) (Nat.le_of_ble_eq_true rfl) (Nat.le_of_ble_eq_true rfl)
