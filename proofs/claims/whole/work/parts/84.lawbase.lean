/-! The law: its world, of a host, a model, the answer's row, the script. -/
section ZLaw
theorem hL_R {g : zG} {A : Nat → Nat} {s : hSc} {u : hOu} {ow : hLi zOD} {nb : hLi zND} {ro pf pa : hLi zTD} {hd : hHd} {R : va_W} : (hL g A s u ow nb ro pf pa hd R).flatten = (hL g A s u ow nb ro pf pa hd []).flatten ++ R := by
  unfold hL
  simp only [List.flatten_cons, List.flatten_nil, List.append_nil, List.append_assoc]
theorem hH_model {g : zG} {A B : Nat → Nat} {q : hT} {m : Nat → Int32} {F : Nat → Nat → Int32} {L0 : Nat × va_E} {S ws : va_W} (h : hH g A q (L0 :: (moW g B m F ++ S)) ws) : ∃ X, zHas ws (moW g B m F ++ X) ∧ ∀ m' F' w, zHas w (moW g B m' F' ++ X) → hH g A q (L0 :: (moW g B m' F' ++ S)) w := by
  obtain ⟨ow, nb, ro, pf, pa, h1, h2, h3, h4, h5, e1, e2, e3, e4, e5, h6, hs⟩ := h
  have key : ∀ M : va_W, ((hL g A q.1 q.2.1 ow nb ro pf pa q.2.2.2.2.2.2.2 (L0 :: (M ++ S))).flatten).Perm (M ++ ((hL g A q.1 q.2.1 ow nb ro pf pa q.2.2.2.2.2.2.2 []).flatten ++ (L0 :: S))) := by
    intro M
    rw [hL_R]
    exact (List.perm_middle.symm.append_left _).trans (List.perm_append_comm_assoc _ _ _)
  exact ⟨_, hs.perm (key _), fun m' F' w hw => ⟨ow, nb, ro, pf, pa, h1, h2, h3, h4, h5, e1, e2, e3, e4, e5, h6, hw.perm (key _).symm⟩⟩
/-- the law's world: the class's state, the model's state and code, the answer's row, and the script's cell -/
def zLaw (g : zG) (A B : Nat → Nat) (lo : Nat) (S : va_W) (qc qm : hT) (t : Int32) (fl : Nat → Int64) (ws : va_W) : Prop := ∃ (m : Nat → Int32) (F : Nat → Nat → Int32), mR qm t m F ∧ hH g A qc ((lo, .inl (g.2.2.1.2.2.1, 1, .inr (.inl fl))) :: (moW g B m F ++ S)) ws
theorem zLaw.model {g : zG} {A B : Nat → Nat} {lo : Nat} {S : va_W} {qc qm : hT} {t : Int32} {fl : Nat → Int64} {ws : va_W} (h : zLaw g A B lo S qc qm t fl ws) : ∃ X, mS g B qm t X ws ∧ ∀ q' t' w, mS g B q' t' X w → zLaw g A B lo S qc q' t' fl w := by
  obtain ⟨m, F, hr, hh⟩ := h
  obtain ⟨X, h1, h2⟩ := hH_model hh
  exact ⟨X, ⟨m, F, hr, h1⟩, fun q' t' w hS => by
    obtain ⟨m', F', hr', hs'⟩ := hS
    exact ⟨m', F', hr', h2 m' F' w hs'⟩⟩
theorem zLaw.cell {g : zG} {A B : Nat → Nat} {lo : Nat} {S : va_W} {qc qm : hT} {t : Int32} {fl : Nat → Int64} {ws : va_W} (h : zLaw g A B lo S qc qm t fl ws) {a : Nat} {e : va_E} (hm : (a, e) ∈ S) : zget ws a = some e := by
  obtain ⟨m, F, hr, ow, nb, ro, pf, pa, h1, h2, h3, h4, h5, e1, e2, e3, e4, e5, h6, hs⟩ := h
  refine hs.2 (a, e) ?_
  rw [hL_R]
  exact List.mem_append.mpr (.inr (List.mem_cons_of_mem _ (List.mem_append.mpr (.inr hm))))
theorem zLaw.host {g : zG} {A B : Nat → Nat} {lo : Nat} {S : va_W} {qc qm : hT} {t : Int32} {fl : Nat → Int64} {ws : va_W} (h : zLaw g A B lo S qc qm t fl ws) : zget ws (A 0) = some (.inr (9, hoF A qc.1)) := by
  obtain ⟨m, F, hr, hh⟩ := h
  exact hh.this
theorem zLaw.mo {g : zG} {A B : Nat → Nat} {lo : Nat} {S : va_W} {qc qm : hT} {t : Int32} {fl : Nat → Int64} {ws : va_W} (h : zLaw g A B lo S qc qm t fl ws) : ∃ fs, zget ws (B 0) = some (.inr (10, fs)) := by
  obtain ⟨X, ⟨m, F, hr, hs⟩, _⟩ := h.model
  exact ⟨_, hs.get (t := 0) rfl⟩
theorem zLaw.ans {g : zG} {A B : Nat → Nat} {lo : Nat} {S : va_W} {qc qm : hT} {t : Int32} {fl : Nat → Int64} {ws : va_W} (h : zLaw g A B lo S qc qm t fl ws) : zget ws lo = some (.inl (g.2.2.1.2.2.1, 1, .inr (.inl fl))) := by
  obtain ⟨m, F, hr, hh⟩ := h
  exact hh.ans
theorem lg_same (a : Int64) : lg_cmp a a = 0 := by
  unfold lg_cmp
  simp
theorem nI_m5 {n k : Nat} (hn : n < 1000000) (hk : k < 1000000) : nI n - 5 < nI k ↔ n < k + 5 := by
  rcases Nat.lt_or_ge n 5 with h | h
  · have hz : ∀ n, n < 5 → (nI n - 5).toInt = (n : Int) - 5 := by decide +kernel
    rw [Int32.lt_iff_toInt_lt, hz n h, nI_toInt (by omega)]
    omega
  · rw [show nI n - 5 = nI (n - 5) from nI_sub (b := 5) h, klt (by omega) (by omega)]
    omega
end ZLaw
section ZScript
variable {x : zX} {g : zG} {i : zY} {pc : Nat} {loc : List (Option Value)} {st st0 : List Value} {ws : va_W} {cl sl sc n : Nat} {fs : Nat → Int32}
/-- the script is older than what is ours: it is read where it was -/
theorem zs_iaload {j : Int32} (hX : va_X sc n fs x.2.2.1 x.2.2.1.heap) (hlt : sc < g.2.2.2) (hd : decode i.2.1 pc = .ok (.iaload, 1)) (hin : vp_in j n) (k : zW x g i (pc + 1) loc (.int (fs j.toNatClampNeg) :: st) ws cl sl) : zW x g i pc loc (.int j :: .ref sc :: st) ws cl sl :=
  fun F H locs ls hI hS hL => va_sld F.1 F.2.1 hX (Nat.lt_of_lt_of_le hlt F.2.2.2.2.2.2.2.2.2) (Nat.not_le.mpr hlt) hS hin hd (k F H locs ls hI hS hL)
theorem zs_alen (hX : va_X sc n fs x.2.2.1 x.2.2.1.heap) (hlt : sc < g.2.2.2) (hd : decode i.2.1 pc = .ok (.arraylength, 1)) (k : zW x g i (pc + 1) loc (.int (Int32.ofNat n) :: st) ws cl sl) : zW x g i pc loc (.ref sc :: st) ws cl sl :=
  fun F H locs ls hI hS hL => va_slen F.1 F.2.1 hX (Nat.lt_of_lt_of_le hlt F.2.2.2.2.2.2.2.2.2) (Nat.not_le.mpr hlt) hS hd (k F H locs ls hI hS hL)
/-- a contract that reads the script -/
def zCX (g : zG) (i : zY) (av : List Value) (ws : va_W) (sc n : Nat) (fs : Nat → Int32) (post : Option Value → va_W → Prop) : Prop :=
  Met g.1 i.1 [.code i.1 i.2.1 i.2.2.1 i.2.2.2.1] (zR i) (fun a U => zPc g av ws a U ∧ va_X sc n fs U U.heap) (zQc g post) i.2.2.2.2.2.1 i.2.2.2.2.2.2 (zA g)
theorem zCX.intro {i : zY} {av : List Value} {post : Option Value → va_W → Prop} (hy : plainFor i.1 = true) (hc : zcat1 av = true) (hn : av.length ≤ i.2.2.1)
    (body : ∀ x : zX, zQ x g i post → va_X sc n fs x.2.2.1 x.2.2.1.heap → zW x g i 0 (zloc av i.2.2.1) [] ws 0 0) : zCX g i av ws sc n fs post := by
  obtain ⟨y, cc, nL, ret, d, mc, ms⟩ := i
  refine va_MetF (cc := cc) (maxL := nL) (ret := ret) hy rfl ?_
  intro p e s m args below meth c s₁ B hml hv
  obtain ⟨⟨rfl, hH, hI⟩, h0⟩ := hv
  have hlen := zsl_len av (zcat1_all hc)
  have hl := lv_entry av (n := nL) (by rw [hlen]; exact hn)
  rw [lg_entry_eq]
  generalize (lg_sl av ++ List.replicate (nL - (lg_sl av).length) Slot.unset).toArray = ls at hl ⊢
  have hF : zFx (p, e, s, m, av.toArray, below, meth, c, MQ below (zQc g post) av.toArray s mc ms (zA g)) g (y, cc, nL, ret, d, mc, ms) :=
    ⟨B.exec, B.bytes, hml, findClass_of_methodNamed B.named, B.returns, B.notSynchronized, (name_of_methodNamed B.named B.method).1, hH⟩
  refine body (p, e, s, m, av.toArray, below, meth, c, MQ below (zQc g post) av.toArray s mc ms (zA g)) rfl h0 hF s.heap [] ls hI va_S.rf ⟨?_, fun v hv => ?_⟩
  · show lv_has ls nL (zpr 0 (zloc av nL))
    unfold zloc
    rw [zpr_app av 0 _ (zcat1_all hc)]
    exact hl
  · have hv : some v ∈ av.map some ++ List.replicate (nL - av.length) none := hv
    rcases List.mem_append.mp hv with h | h
    · obtain ⟨w, hw, e⟩ := List.mem_map.mp h
      cases e
      exact zcat1_all hc _ hw
    · exact absurd (List.eq_of_mem_replicate h) (by simp)
theorem zs_callS {i' : zY} {k0 idx : Nat} {av : List Value} (hm : zM i' k0) (hw : Cond.methodLink i.1.cls idx i'.1 ∈ ztb) (hw2 : Cond.static i'.1 ∈ ztb) (hd : decode i.2.1 pc = .ok (.invokestatic idx, 3)) (hn : av.length = k0) (hX : va_X sc n fs x.2.2.1 x.2.2.1.heap) (hlt : sc < g.2.2.2)
    (hdep : i'.2.2.2.2.1 + 1 ≤ i.2.2.2.2.1) (hcl : cl + i'.2.2.2.2.2.1 ≤ i.2.2.2.2.2.1) (hsl : sl + i'.2.2.2.2.2.2 ≤ i.2.2.2.2.2.2) (hst : (st.map fun v => v.category).sum ≤ 8) (h0 : st0 = av.reverse ++ st)
    (k : zCX g i' av ws sc n fs (fun v ws' => zW x g i (pc + 3) loc (v.toList ++ st) ws' (cl + i'.2.2.2.2.2.1) (sl + i'.2.2.2.2.2.2))) : zW x g i pc loc st0 ws cl sl := by
  intro F H locs ls hI hS hL
  exact zcont (va_runS (zfix F) k ⟨zcallB F hm hw hdep, F.2.2.2.2.2.2.2.1.hts _ _ hw2⟩ ⟨fun a U g0 mk h => ⟨zblind a U g0 mk h.1, h.2.moved (U := U.calling g0 mk a) (Vm.Alike.refl U.vm)⟩, fun U hU hW => ⟨zpre F hI hS U hU hW, by rw [hU]; exact (hX.moved hW.alike).kept (hS.2.1 sc (Nat.lt_of_lt_of_le hlt F.2.2.2.2.2.2.2.2.2) (Nat.not_le.mpr hlt))⟩⟩ rfl hn hL.1.1 h0 (lv_room hst) hd ⟨hcl, hsl⟩) F hS hL (fun v ws' h => h)
end ZScript
