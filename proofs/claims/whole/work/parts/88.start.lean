/-! The start: what the Statement gives of it, in our words. -/
section ZStart
theorem zk_any {w : Cond} {s : State} {A : Array Value} (hk : zk_ok w = true) (h : w.before A s = true) : w.before #[] s = true := by
  rw [zk_ok, Bool.or_eq_true] at hk
  by_cases hg : goodWord w = true
  · exact word_at (State.WarmedH.refl s) (good_of_word hg) h
  · have h2 : zk_nest w = true := hk.resolve_left hg
    cases w <;> first | exact va_tabs rfl rfl h | exact h | (simp [zk_nest] at h2; done)
theorem st_arr {s : State} {A : Array Value} {ty : FieldType} (h : (Cond.arrayClass ty).before A s = true) : ∃ cA : ClassId, ArrOfT s cA ty ∧ s.vm.findClass ("[" ++ ty.toString) = some cA := by
  obtain ⟨c, k, comp, h1, h2, h3⟩ := Cond.arrayClass_spec h
  exact ⟨c, fun n z => ⟨fun k h => (by cases h), k, h2, comp, h3⟩, h1⟩
theorem st_obj {s : State} {A : Array Value} (h : (Cond.arrayOver (.object "java/lang/Object")).before A s = true) : ∃ cA : ClassId, ArrOfT s cA (.object "java/lang/Object") ∧ va_RA s cA (.object "java/lang/Object") := by
  obtain ⟨comp, c, k, h1, h2, h3, h4, h5⟩ := Cond.arrayOver_spec h
  exact ⟨c, fun n z => ⟨fun k h => (by cases h), k, h3, comp, h4⟩, k, comp, h3, h4, h1, h5⟩
theorem st_known {s : State} {A : Array Value} (hts : ∀ w ∈ tables_1, w.before A s = true) (htz : ∀ w ∈ ztb, w.before A s = true) : ∃ D : va_G, ∀ (c : Nat) (q : vw_C), zcl[c]? = some q → u_Kn s q.1 q.2.1 q.2.2 (D.1 c) (D.2 c) := by
  have key : ∀ c : Nat, ∃ r : ClassId × (Nat → Nat), ∀ q : vw_C, zcl[c]? = some q → u_Kn s q.1 q.2.1 q.2.2 r.1 r.2 := by
    intro c
    match c with
    | 0 =>
      obtain ⟨cC, iS, h⟩ := u_known htz zok_Al.1 (hts _ k_72)
      exact ⟨(cC, iS), fun q hq => by obtain rfl := Option.some.inj (show some _ = some q from hq); exact h⟩
    | 1 =>
      obtain ⟨cC, iS, h⟩ := u_known htz zok_Hd.1 (hts _ k_129)
      exact ⟨(cC, iS), fun q hq => by obtain rfl := Option.some.inj (show some _ = some q from hq); exact h⟩
    | 2 =>
      obtain ⟨cC, iS, h⟩ := u_known htz zok_Ne.1 (hts _ k_335)
      exact ⟨(cC, iS), fun q hq => by obtain rfl := Option.some.inj (show some _ = some q from hq); exact h⟩
    | 3 =>
      obtain ⟨cC, iS, h⟩ := u_known htz zok_Nr.1 (hts _ k_102)
      exact ⟨(cC, iS), fun q hq => by obtain rfl := Option.some.inj (show some _ = some q from hq); exact h⟩
    | 4 =>
      obtain ⟨cC, iS, h⟩ := u_known htz zok_Ou.1 (hts _ k_35)
      exact ⟨(cC, iS), fun q hq => by obtain rfl := Option.some.inj (show some _ = some q from hq); exact h⟩
    | 5 =>
      obtain ⟨cC, iS, h⟩ := u_known htz zok_Oa.1 (hts _ k_159)
      exact ⟨(cC, iS), fun q hq => by obtain rfl := Option.some.inj (show some _ = some q from hq); exact h⟩
    | 6 =>
      obtain ⟨cC, iS, h⟩ := u_known htz zok_Or.1 (hts _ k_66)
      exact ⟨(cC, iS), fun q hq => by obtain rfl := Option.some.inj (show some _ = some q from hq); exact h⟩
    | 7 =>
      obtain ⟨cC, iS, h⟩ := u_known htz zok_Ti.1 (hts _ k_601)
      exact ⟨(cC, iS), fun q hq => by obtain rfl := Option.some.inj (show some _ = some q from hq); exact h⟩
    | 8 =>
      obtain ⟨cC, iS, h⟩ := u_known htz zok_Tr.1 (hts _ k_114)
      exact ⟨(cC, iS), fun q hq => by obtain rfl := Option.some.inj (show some _ = some q from hq); exact h⟩
    | 9 =>
      obtain ⟨cC, iS, h⟩ := u_known htz zok_Ho.1 (hts _ k_27)
      exact ⟨(cC, iS), fun q hq => by obtain rfl := Option.some.inj (show some _ = some q from hq); exact h⟩
    | 10 =>
      obtain ⟨cC, iS, h⟩ := u_known htz zok_Mo.1 (hts _ k_839)
      exact ⟨(cC, iS), fun q hq => by obtain rfl := Option.some.inj (show some _ = some q from hq); exact h⟩
    | n + 11 => exact ⟨(0, fun _ => 0), fun q hq => by cases hq⟩
  obtain ⟨f, hf⟩ := Classical.axiomOfChoice key
  exact ⟨(fun c => (f c).1, fun c => (f c).2), fun c q hq => hf c q hq⟩
theorem st_str {s : State} {A : Array Value} {k : Nat} {tx : String} {cur : Nat} (hcur : s.vm.findClass "LinkHost" = some cur) (h : (Cond.stringRef "LinkHost" k tx).before A s = true) : ∃ a : Nat, vk_R "LinkHost" k tx a s := by
  obtain ⟨_, _, _, a, _, _, _, _, _, he⟩ := Cond.stringRef_spec hcur h
  exact ⟨a, vk_R.of h he⟩
theorem st_nc {s : State} {A : Array Value} (h : (Cond.not (.castable "java/lang/IllegalStateException" "java/lang/IllegalArgumentException")).before A s = true) : zNC s := by
  simp only [Cond.before, Cond.holds, Cond.value] at h
  cases h1 : s.vm.findClass "java/lang/IllegalStateException" with
  | none => simp [h1] at h
  | some a =>
    cases h2 : s.vm.findClass "java/lang/IllegalArgumentException" with
    | none => simp [h1, h2] at h
    | some b =>
      simp [h1, h2] at h
      exact ⟨a, b, h1, h2, h⟩
/-- what holds of the start, in our words -/
theorem st_H {s : State} {b : Nat} (hts : ∀ w ∈ lw_tbl, w.before #[Value.ref b] s = true) (hgv : (Jvm.Cond.and given_1 narrow_1).before #[Value.ref b] s = true) (l : Launch) : ∃ (D : va_G) (K : zK), zH (l, D, K, s.heap.size) s s.heap := by
  have ht1 : ∀ w ∈ tables_1, w.before #[Value.ref b] s = true := fun w hw => hts w (List.mem_append_right _ hw)
  have htz : ∀ w ∈ ztb, w.before #[Value.ref b] s = true := fun w hw => hts w (List.mem_filter.mp hw).1
  have hfl := flat_of_before _ hgv
  obtain ⟨D, hD⟩ := st_known ht1 htz
  obtain ⟨cI, i1, i2⟩ := st_arr (ht1 _ k_64)
  obtain ⟨cJ, j1, j2⟩ := st_arr (ht1 _ k_1157)
  obtain ⟨cZ, z1, z2⟩ := st_arr (ht1 _ k_955)
  obtain ⟨cO, o1, o2⟩ := st_obj (ht1 _ k_244)
  have hA : ∀ a : Nat, a < s.heap.size → ¬ (fun q : Nat => s.heap.size ≤ q) a := fun a ha => Nat.not_le.mpr ha
  have hlen : (Term.length (.static "java/util/ArrayList" "DEFAULTCAPACITY_EMPTY_ELEMENTDATA" "[Ljava/lang/Object;")).eval #[Value.ref b] s none [] s = some (.int (Int32.ofNat 0)) := Cond.eq_int (n := 0) (hfl (Jvm.Cond.eq (Jvm.Term.length (Jvm.Term.static "java/util/ArrayList" "DEFAULTCAPACITY_EMPTY_ELEMENTDATA" "[Ljava/lang/Object;")) (Jvm.Term.int (0 : Int32))) (by decide +kernel)) rfl
  obtain ⟨t, ht, hT⟩ := va_Tof (N := 0) (f := fun _ => .null) (A := fun q : Nat => s.heap.size ≤ q) (by decide) (hfl (Jvm.Cond.arrayOf (Jvm.Term.static "java/util/ArrayList" "DEFAULTCAPACITY_EMPTY_ELEMENTDATA" "[Ljava/lang/Object;") (Jvm.ClassFile.FieldType.object "java/lang/Object")) (by decide +kernel)) hlen (fun j hj => absurd hj (Nat.not_lt_zero j)) hA
  have hZ := va_Zof (A := fun q : Nat => s.heap.size ≤ q) (ht1 _ (zt_1 _ (List.mem_of_getElem? (i := 84) rfl))) (ht1 _ k_6) ht hA
  obtain ⟨cur, kC, hcur, _⟩ := Cond.instantiable_spec (ht1 _ k_27)
  refine ⟨D, (cI, cO, cJ, cZ, t), ⟨fun w hw => zk_any (List.mem_filter.mp hw).2 (htz w hw), hD, fun k q hk => ?_⟩, ⟨hZ, hT, zSt.of (ht1 _ (zt_2 _ (List.mem_of_getElem? (i := 152) rfl))) (hfl (Jvm.Cond.isRef (Jvm.Term.static "java/lang/Throwable" "UNASSIGNED_STACK" "[Ljava/lang/StackTraceElement;")) (by decide +kernel)) hA, zSt.of (ht1 _ (zt_2 _ (List.mem_of_getElem? (i := 154) rfl))) (hfl (Jvm.Cond.isRef (Jvm.Term.static "java/lang/Throwable" "SUPPRESSED_SENTINEL" "Ljava/util/List;")) (by decide +kernel)) hA, fun q hq => ?_, st_nc (hfl (Jvm.Cond.not (Jvm.Cond.castable "java/lang/IllegalStateException" "java/lang/IllegalArgumentException")) (by decide +kernel))⟩, Nat.le_refl _⟩
  · match k with
    | 0 => obtain rfl := Option.some.inj (show some _ = some q from hk); exact ⟨i1, i2⟩
    | 1 => obtain rfl := Option.some.inj (show some _ = some q from hk); exact ⟨o1, o2⟩
    | 2 => obtain rfl := Option.some.inj (show some _ = some q from hk); exact ⟨j1, j2⟩
    | 3 => obtain rfl := Option.some.inj (show some _ = some q from hk); exact ⟨z1, z2⟩
    | n + 4 => cases hk
  · unfold zstr at hq
    simp only [List.mem_cons, List.not_mem_nil, or_false] at hq
    rcases hq with rfl | rfl | rfl | rfl
    · exact st_str hcur (ht1 _ k_736)
    · exact st_str hcur (ht1 _ k_406)
    · exact st_str hcur (ht1 _ k_795)
    · exact st_str hcur (ht1 _ k_528)
end ZStart
