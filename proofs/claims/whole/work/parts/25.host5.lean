/-! The host: what a neighbour tells, which router, the headers (walks by a program, gen25.py). -/
section ZHost6
theorem zb_fit (b : Bool) : fits .boolean (.int (zb b)) = true := by cases b <;> rfl
def rdrop (l : List zTD) (y : zND) (b : Bool) : List zTD := if y.2.2.2.2.1 && !b then l.filter (fun e => !decide (e.1 = y.1)) else l
def hnX (t n fl : Int32) (x : zND) : zND := if x.2.2.1 = 1 then swX t (x.1, n, (if fl &&& 2 = 0 then 3 else 2), t, x.2.2.2.2) else if fl &&& 2 = 0 then (if x.2.1 = n then (x.1, n, x.2.2) else ndS (x.1, n, x.2.2) 3 t) else ndS (x.1, n, x.2.2) 2 t
def hnU (u : hOu) (x : zND) : hOu := if x.2.2.1 = 1 then swU u x else u
theorem set_at {α : Type} {l : List α} {j : Nat} {e f : α} (h : l[j]? = some e) : (l.set j f)[j]? = some f := by rw [List.getElem?_set, if_pos rfl, if_pos (List.getElem?_eq_some_iff.mp h).1]
theorem zsw_1_6 (k : Int32) : k = 1 ∨ k = 2 ∨ k = 3 ∨ k = 4 ∨ k = 5 ∨ k = 6 ∨ (k.toInt < 1 ∨ 6 < k.toInt) := by
  have h : k.toInt = 1 ∨ k.toInt = 2 ∨ k.toInt = 3 ∨ k.toInt = 4 ∨ k.toInt = 5 ∨ k.toInt = 6 ∨ (k.toInt < 1 ∨ 6 < k.toInt) := by omega
  rcases h with h | h | h | h | h | h | h
  · exact .inl (Int32.toInt_inj.mp h)
  · exact .inr (.inl (Int32.toInt_inj.mp h))
  · exact .inr (.inr (.inl (Int32.toInt_inj.mp h)))
  · exact .inr (.inr (.inr (.inl (Int32.toInt_inj.mp h))))
  · exact .inr (.inr (.inr (.inr (.inl (Int32.toInt_inj.mp h)))))
  · exact .inr (.inr (.inr (.inr (.inr (.inl (Int32.toInt_inj.mp h))))))
  · exact .inr (.inr (.inr (.inr (.inr (.inr h)))))
def hkind (q : hT) (i : Nat) : Int32 := if q.2.2.2.2.2.2.2.2.1 i = 0 ∧ i = 0 then 1 else q.2.2.2.2.2.2.2.2.1 i
def tkS (s : hSc) : hSc := (s.1, s.2.1, s.2.2.1, s.2.2.2.1, s.2.2.2.2.1 + 1, s.2.2.2.2.2)
/-- header i: whether the next is looked at; the state -/
def goT (q : hT) (i : Nat) (fr : Int32) (gr : Bool) : Bool × hT :=
  let k := hkind q i
  let n := q.2.2.2.2.2.2.2.2.2 i
  if k = 1 then (decide (n = 0), if n = 2 ∨ (n = 3 ∧ gr = false) then faultT q (nI i) 2 fr gr else q)
  else if k = 2 then (decide (n = 0), if n = 0 then q else faultT q (nI i) 0 fr gr)
  else if k = 3 then (decide (n = 0), q)
  else if k = 4 then (false, q)
  else if k = 5 then (false, if fr = 0 then q else tU q (ouAdd q.2.1 5 fr n))
  else if k = 6 then (false, tS q (tkS q.1))
  else (false, faultT q (nI i) 1 fr gr)
end ZHost6
theorem c_Ho_hearWhetherRouter {g : zG} {ws : va_W} {post : Option Value → va_W → Prop} {A : Nat → Nat} {s : hSc} {u : hOu} {ow : hLi zOD} {nb : hLi zND} {ro pf pa : hLi zTD} {hd : hHd} {R : va_W} (h2 : hok 6 nb) (h3 : hok 3 ro) (hs : zHas ws (hL g A s u ow nb ro pf pa hd R).flatten) {j : Nat} {e : Nat × zND} {b : Bool} (he : nb.2[j]? = some e) (k : ∀ ro' w, hok 3 ro' → ro'.2.map Prod.snd = rdrop (ro.2.map Prod.snd) e.2 b → zHas w (hL g A s u ow (nb.1, nb.2.set j (e.1, ndR e.2 b)) ro' pf pa hd R).flatten → post none w) : zC g i_Ho_hearWhetherRouter [.ref (A 0), .ref e.1, .int (zb b)] ws post := by
  refine zC.intro (by decide +kernel) rfl (Nat.le_of_ble_eq_true rfl) fun x0 hq => ?_
  have hse := rw_el (hs.pick 3 rfl) he
  refine zo_aload_n (i := i_Ho_hearWhetherRouter) (pc := 0) d_Ho_hearWhetherRouter_0 rfl rfl ?_
  refine zo_getN (i := i_Ho_hearWhetherRouter) (pc := 1) 2 4 rfl zok_Ne (Nat.le_of_ble_eq_true rfl) (ztb_of k_555 rfl) d_Ho_hearWhetherRouter_1 (fun _ _ _ h => h) hse rfl ?_
  refine zo_if_eq (i := i_Ho_hearWhetherRouter) (pc := 4) (tgt := 22) d_Ho_hearWhetherRouter_4 (by decide) (fun hA => ?_) (fun hA => ?_)
  · replace hs := hv_nb hs he
    refine zo_aload_n (i := i_Ho_hearWhetherRouter) (pc := 22) d_Ho_hearWhetherRouter_22 rfl rfl ?_
    refine zo_iload_n (i := i_Ho_hearWhetherRouter) (pc := 23) d_Ho_hearWhetherRouter_23 rfl ?_
    refine zh_putN (i := i_Ho_hearWhetherRouter) (pc := 24) 2 4 rfl zok_Ne (Nat.le_of_ble_eq_true rfl) (ztb_of k_555 rfl) rfl d_Ho_hearWhetherRouter_24 (fun _ _ _ h => h) (t_Ne_ok 4 (Nat.le_of_ble_eq_true rfl)) (zb_nar _) (zb_fit _) hs 5 rfl (Nat.le_of_ble_eq_true rfl) fun ws hs => ?_
    refine zo_return (i := i_Ho_hearWhetherRouter) (pc := 27) hq d_Ho_hearWhetherRouter_27 rfl (Nat.le_of_ble_eq_true rfl) (Nat.le_of_ble_eq_true rfl) ?_
    refine k ro ws h3 ?_ (hu_nb he hs)
    unfold rdrop
    rw [zb_0] at hA
    rw [hA]
    rfl
  · refine zo_iload_n (i := i_Ho_hearWhetherRouter) (pc := 7) d_Ho_hearWhetherRouter_7 rfl ?_
    refine zo_if_ne (i := i_Ho_hearWhetherRouter) (pc := 8) (tgt := 22) d_Ho_hearWhetherRouter_8 (by decide) (fun hB => ?_) (fun hB => ?_)
    · replace hs := hv_nb hs he
      refine zo_aload_n (i := i_Ho_hearWhetherRouter) (pc := 22) d_Ho_hearWhetherRouter_22 rfl rfl ?_
      refine zo_iload_n (i := i_Ho_hearWhetherRouter) (pc := 23) d_Ho_hearWhetherRouter_23 rfl ?_
      refine zh_putN (i := i_Ho_hearWhetherRouter) (pc := 24) 2 4 rfl zok_Ne (Nat.le_of_ble_eq_true rfl) (ztb_of k_555 rfl) rfl d_Ho_hearWhetherRouter_24 (fun _ _ _ h => h) (t_Ne_ok 4 (Nat.le_of_ble_eq_true rfl)) (zb_nar _) (zb_fit _) hs 5 rfl (Nat.le_of_ble_eq_true rfl) fun ws hs => ?_
      refine zo_return (i := i_Ho_hearWhetherRouter) (pc := 27) hq d_Ho_hearWhetherRouter_27 rfl (Nat.le_of_ble_eq_true rfl) (Nat.le_of_ble_eq_true rfl) ?_
      refine k ro ws h3 ?_ (hu_nb he hs)
      unfold rdrop
      rw [zb_0, Bool.not_eq_false] at hB
      rw [hB, Bool.not_true, Bool.and_false]
      rfl
    · refine zo_aload_n (i := i_Ho_hearWhetherRouter) (pc := 11) d_Ho_hearWhetherRouter_11 rfl rfl ?_
      refine zo_get (i := i_Ho_hearWhetherRouter) (pc := 12) 9 4 rfl zok_Ho (Nat.le_of_ble_eq_true rfl) (ztb_of k_266 rfl) d_Ho_hearWhetherRouter_12 (fun _ _ _ h => h) (hs.get (t := 0) rfl) rfl ?_
      refine zo_aload_n (i := i_Ho_hearWhetherRouter) (pc := 15) d_Ho_hearWhetherRouter_15 rfl rfl ?_
      refine zo_getN (i := i_Ho_hearWhetherRouter) (pc := 16) 2 0 rfl zok_Ne (Nat.le_of_ble_eq_true rfl) (ztb_of k_546 rfl) d_Ho_hearWhetherRouter_16 (fun _ _ _ h => h) hse rfl ?_
      refine zc_VN1 (i := i_Ho_hearWhetherRouter) (pc := 19) 8 rfl m_Tr_drop (ztb_of k_584 rfl) (ztb_of k_586 rfl) s_Tr_drop d_Ho_hearWhetherRouter_19 (Nat.le_of_ble_eq_true rfl) (Nat.le_of_ble_eq_true rfl) (Nat.le_of_ble_eq_true rfl) (Nat.le_of_ble_eq_true rfl) ((hs.pick 4 rfl).get (t := 0) rfl) (c_tr_drop (hs.pick 4 rfl) h3 (by decide) fun y' ws h3' e3 hs => ?_)
      replace hs : zHas ws (hL g A s u ow nb y' pf pa hd R).flatten := zHas.back (cs := hL g A s u ow nb ro pf pa hd R) 4 rfl hs
      replace hs := hv_nb hs he
      refine zo_aload_n (i := i_Ho_hearWhetherRouter) (pc := 22) d_Ho_hearWhetherRouter_22 rfl rfl ?_
      refine zo_iload_n (i := i_Ho_hearWhetherRouter) (pc := 23) d_Ho_hearWhetherRouter_23 rfl ?_
      refine zh_putN (i := i_Ho_hearWhetherRouter) (pc := 24) 2 4 rfl zok_Ne (Nat.le_of_ble_eq_true rfl) (ztb_of k_555 rfl) rfl d_Ho_hearWhetherRouter_24 (fun _ _ _ h => h) (t_Ne_ok 4 (Nat.le_of_ble_eq_true rfl)) (zb_nar _) (zb_fit _) hs 5 rfl (Nat.le_of_ble_eq_true rfl) fun ws hs => ?_
      refine zo_return (i := i_Ho_hearWhetherRouter) (pc := 27) hq d_Ho_hearWhetherRouter_27 rfl (Nat.le_of_ble_eq_true rfl) (Nat.le_of_ble_eq_true rfl) ?_
      refine k y' ws h3' ?_ (hu_nb he hs)
      rw [e3]
      unfold rdrop
      rw [zb_0, Bool.not_eq_false] at hA
      rw [zb_0] at hB
      rw [hA, hB]
      rfl
theorem c_Ho_hearNumber {g : zG} {ws : va_W} {post : Option Value → va_W → Prop} {A : Nat → Nat} {s : hSc} {u : hOu} {ow : hLi zOD} {nb : hLi zND} {ro pf pa : hLi zTD} {hd : hHd} {R : va_W} (h2 : hok 6 nb) (h3 : hok 3 ro) (hs : zHas ws (hL g A s u ow nb ro pf pa hd R).flatten) {j : Nat} {e : Nat × zND} {n fl : Int32} (he : nb.2[j]? = some e) (k1 : (¬ e.2.2.2.1 = 1 ∧ ¬ e.2.2.1 = n ∧ fl &&& 4 = 0) → ∀ w, zHas w (hL g A s u ow (nb.1, nb.2.set j (e.1, if e.2.2.2.1 = 2 then ndS e.2 3 s.2.1 else e.2)) ro pf pa hd R).flatten → post none w) (k2 : ¬ (¬ e.2.2.2.1 = 1 ∧ ¬ e.2.2.1 = n ∧ fl &&& 4 = 0) → ∀ ro' w, hok 3 ro' → ro'.2.map Prod.snd = rdrop (ro.2.map Prod.snd) (hnX s.2.1 n fl e.2) (!decide (fl &&& 1 = 0)) → zHas w (hL g A s (hnU u e.2) ow (nb.1, nb.2.set j (e.1, ndR (hnX s.2.1 n fl e.2) (!decide (fl &&& 1 = 0)))) ro' pf pa hd R).flatten → post none w) : zC g i_Ho_hearNumber [.ref (A 0), .ref e.1, .int n, .int fl] ws post := by
  refine zC.intro (by decide +kernel) rfl (Nat.le_of_ble_eq_true rfl) fun x0 hq => ?_
  have hse := rw_el (hs.pick 3 rfl) he
  refine zo_iload_n (i := i_Ho_hearNumber) (pc := 0) d_Ho_hearNumber_0 rfl ?_
  refine zo_iconst (i := i_Ho_hearNumber) (pc := 1) (v := 2) d_Ho_hearNumber_1 (by decide) ?_
  refine zo_iand (i := i_Ho_hearNumber) (pc := 2) d_Ho_hearNumber_2 ?_
  refine zo_if_eq (i := i_Ho_hearNumber) (pc := 3) (tgt := 10) d_Ho_hearNumber_3 (by decide) (fun hF => ?_) (fun hF => ?_)
  · refine zo_iconst (i := i_Ho_hearNumber) (pc := 10) (v := 0) d_Ho_hearNumber_10 (by decide) ?_
    refine zo_istore (i := i_Ho_hearNumber) (pc := 11) d_Ho_hearNumber_11 (Nat.le_of_ble_eq_true rfl) ?_
    refine zo_aload_n (i := i_Ho_hearNumber) (pc := 13) d_Ho_hearNumber_13 rfl rfl ?_
    refine zo_getN (i := i_Ho_hearNumber) (pc := 14) 2 1 rfl zok_Ne (Nat.le_of_ble_eq_true rfl) (ztb_of k_548 rfl) d_Ho_hearNumber_14 (fun _ _ _ h => h) hse rfl ?_
    refine zo_iload_n (i := i_Ho_hearNumber) (pc := 17) d_Ho_hearNumber_17 rfl ?_
    refine zo_icmp_eq (i := i_Ho_hearNumber) (pc := 18) (tgt := 25) d_Ho_hearNumber_18 (by decide) (fun hN => ?_) (fun hN => ?_)
    · refine zo_iconst (i := i_Ho_hearNumber) (pc := 25) (v := 0) d_Ho_hearNumber_25 (by decide) ?_
      refine zo_istore (i := i_Ho_hearNumber) (pc := 26) d_Ho_hearNumber_26 (Nat.le_of_ble_eq_true rfl) ?_
      refine zo_aload_n (i := i_Ho_hearNumber) (pc := 28) d_Ho_hearNumber_28 rfl rfl ?_
      refine zo_getN (i := i_Ho_hearNumber) (pc := 29) 2 2 rfl zok_Ne (Nat.le_of_ble_eq_true rfl) (ztb_of k_550 rfl) d_Ho_hearNumber_29 (fun _ _ _ h => h) hse rfl ?_
      refine zo_iconst (i := i_Ho_hearNumber) (pc := 32) (v := 1) d_Ho_hearNumber_32 (by decide) ?_
      refine zo_icmp_ne (i := i_Ho_hearNumber) (pc := 33) (tgt := 67) d_Ho_hearNumber_33 (by decide) (fun hS => ?_) (fun hS => ?_)
      · refine zo_iload (i := i_Ho_hearNumber) (pc := 67) d_Ho_hearNumber_67 rfl ?_
        refine zo_if_eq (i := i_Ho_hearNumber) (pc := 69) (tgt := 96) d_Ho_hearNumber_69 (by decide) (fun h69 => ?_) (fun h69 => False.elim (by first | exact absurd h69 (rfl) | exact absurd (rfl) h69))
        replace hs := hv_nb hs he
        refine zo_aload_n (i := i_Ho_hearNumber) (pc := 96) d_Ho_hearNumber_96 rfl rfl ?_
        refine zo_iload_n (i := i_Ho_hearNumber) (pc := 97) d_Ho_hearNumber_97 rfl ?_
        refine zh_putN (i := i_Ho_hearNumber) (pc := 98) 2 1 rfl zok_Ne (Nat.le_of_ble_eq_true rfl) (ztb_of k_548 rfl) rfl d_Ho_hearNumber_98 (fun _ _ _ h => h) (t_Ne_ok 1 (Nat.le_of_ble_eq_true rfl)) rfl rfl hs 5 rfl (Nat.le_of_ble_eq_true rfl) fun ws hs => ?_
        replace hs : zHas ws (hoC A s :: (ouN g A u ++ ((e.1, .inr (2, ndV (e.2.1, n, e.2.2.2))) :: rwX g 3 2 ndV (A 7) (A 8) nb.1.1 nb.1.2 [] nb.2 j (owW g A ow ++ (roW g A ro ++ (pfW g A pf ++ (paW g A pa ++ (heW g A hd ++ (R ++ []))))))))) := hs
        refine zo_iload (i := i_Ho_hearNumber) (pc := 101) d_Ho_hearNumber_101 rfl ?_
        refine zo_if_eq (i := i_Ho_hearNumber) (pc := 103) (tgt := 118) d_Ho_hearNumber_103 (by decide) (fun h103 => ?_) (fun h103 => False.elim (by first | exact absurd h103 (rfl) | exact absurd (rfl) h103))
        refine zo_iload (i := i_Ho_hearNumber) (pc := 118) d_Ho_hearNumber_118 rfl ?_
        refine zo_if_eq (i := i_Ho_hearNumber) (pc := 120) (tgt := 132) d_Ho_hearNumber_120 (by decide) (fun h120 => ?_) (fun h120 => False.elim (by first | exact absurd h120 (rfl) | exact absurd (rfl) h120))
        refine zo_aload_n (i := i_Ho_hearNumber) (pc := 132) d_Ho_hearNumber_132 rfl rfl ?_
        refine zo_aload_n (i := i_Ho_hearNumber) (pc := 133) d_Ho_hearNumber_133 rfl rfl ?_
        refine zo_iload_n (i := i_Ho_hearNumber) (pc := 134) d_Ho_hearNumber_134 rfl ?_
        refine zo_iconst (i := i_Ho_hearNumber) (pc := 135) (v := 1) d_Ho_hearNumber_135 (by decide) ?_
        refine zo_iand (i := i_Ho_hearNumber) (pc := 136) d_Ho_hearNumber_136 ?_
        refine zo_if_eq (i := i_Ho_hearNumber) (pc := 137) (tgt := 144) d_Ho_hearNumber_137 (by decide) (fun h137 => ?_) (fun h137 => ?_)
        · refine zo_iconst (i := i_Ho_hearNumber) (pc := 144) (v := 0) d_Ho_hearNumber_144 (by decide) ?_
          replace hs := hu_nb (u := u) (y := (e.2.1, n, e.2.2.2)) he hs
          refine zc_V2 (i := i_Ho_hearNumber) (pc := 145) 9 rfl m_Ho_hearWhetherRouter (ztb_of k_680 rfl) (ztb_of k_682 rfl) s_Ho_hearWhetherRouter d_Ho_hearNumber_145 (Nat.le_of_ble_eq_true rfl) (Nat.le_of_ble_eq_true rfl) (Nat.le_of_ble_eq_true rfl) (Nat.le_of_ble_eq_true rfl) (hs.get (t := 0) rfl) (c_Ho_hearWhetherRouter (e := (e.1, (e.2.1, n, e.2.2.2))) (b := false) (hok_set h2) h3 hs (set_at he) fun ro' ws h3' e3 hs => ?_)
          refine zo_return (i := i_Ho_hearNumber) (pc := 148) hq d_Ho_hearNumber_148 rfl (Nat.le_of_ble_eq_true rfl) (Nat.le_of_ble_eq_true rfl) ?_
          have ey : hnX s.2.1 n fl e.2 = (e.2.1, n, e.2.2.2) := by
            unfold hnX
            rw [if_neg hS, if_pos hF, if_pos hN]
          have eu : hnU u e.2 = u := if_neg hS
          have eb : (!decide (fl &&& 1 = 0)) = false := by simp [h137]
          rw [ey, eu, eb] at k2
          refine k2 (fun q => q.2.1 hN) ro' ws h3' e3 ?_
          exact hs.eq (congrArg (fun l => (hL g A s (u) ow (nb.1, l) ro' pf pa hd R).flatten) (List.set_set ..))
        · refine zo_iconst (i := i_Ho_hearNumber) (pc := 140) (v := 1) d_Ho_hearNumber_140 (by decide) ?_
          refine zo_goto (i := i_Ho_hearNumber) (pc := 141) (tgt := 145) d_Ho_hearNumber_141 (by decide) ?_
          replace hs := hu_nb (u := u) (y := (e.2.1, n, e.2.2.2)) he hs
          refine zc_V2 (i := i_Ho_hearNumber) (pc := 145) 9 rfl m_Ho_hearWhetherRouter (ztb_of k_680 rfl) (ztb_of k_682 rfl) s_Ho_hearWhetherRouter d_Ho_hearNumber_145 (Nat.le_of_ble_eq_true rfl) (Nat.le_of_ble_eq_true rfl) (Nat.le_of_ble_eq_true rfl) (Nat.le_of_ble_eq_true rfl) (hs.get (t := 0) rfl) (c_Ho_hearWhetherRouter (e := (e.1, (e.2.1, n, e.2.2.2))) (b := true) (hok_set h2) h3 hs (set_at he) fun ro' ws h3' e3 hs => ?_)
          refine zo_return (i := i_Ho_hearNumber) (pc := 148) hq d_Ho_hearNumber_148 rfl (Nat.le_of_ble_eq_true rfl) (Nat.le_of_ble_eq_true rfl) ?_
          have ey : hnX s.2.1 n fl e.2 = (e.2.1, n, e.2.2.2) := by
            unfold hnX
            rw [if_neg hS, if_pos hF, if_pos hN]
          have eu : hnU u e.2 = u := if_neg hS
          have eb : (!decide (fl &&& 1 = 0)) = true := by simp [h137]
          rw [ey, eu, eb] at k2
          refine k2 (fun q => q.2.1 hN) ro' ws h3' e3 ?_
          exact hs.eq (congrArg (fun l => (hL g A s (u) ow (nb.1, l) ro' pf pa hd R).flatten) (List.set_set ..))
      · replace hs := hv_nb hs he
        refine zo_aload_n (i := i_Ho_hearNumber) (pc := 36) d_Ho_hearNumber_36 rfl rfl ?_
        refine zo_iload_n (i := i_Ho_hearNumber) (pc := 37) d_Ho_hearNumber_37 rfl ?_
        refine zh_putN (i := i_Ho_hearNumber) (pc := 38) 2 1 rfl zok_Ne (Nat.le_of_ble_eq_true rfl) (ztb_of k_548 rfl) rfl d_Ho_hearNumber_38 (fun _ _ _ h => h) (t_Ne_ok 1 (Nat.le_of_ble_eq_true rfl)) rfl rfl hs 5 rfl (Nat.le_of_ble_eq_true rfl) fun ws hs => ?_
        replace hs : zHas ws (hoC A s :: (ouN g A u ++ ((e.1, .inr (2, ndV (e.2.1, n, e.2.2.2))) :: rwX g 3 2 ndV (A 7) (A 8) nb.1.1 nb.1.2 [] nb.2 j (owW g A ow ++ (roW g A ro ++ (pfW g A pf ++ (paW g A pa ++ (heW g A hd ++ (R ++ []))))))))) := hs
        refine zo_aload_n (i := i_Ho_hearNumber) (pc := 41) d_Ho_hearNumber_41 rfl rfl ?_
        refine zo_iload (i := i_Ho_hearNumber) (pc := 42) d_Ho_hearNumber_42 rfl ?_
        refine zo_if_eq (i := i_Ho_hearNumber) (pc := 44) (tgt := 51) d_Ho_hearNumber_44 (by decide) (fun h44 => ?_) (fun h44 => False.elim (by first | exact absurd h44 (rfl) | exact absurd (rfl) h44))
        refine zo_iconst (i := i_Ho_hearNumber) (pc := 51) (v := 3) d_Ho_hearNumber_51 (by decide) ?_
        refine zo_aload_n (i := i_Ho_hearNumber) (pc := 52) d_Ho_hearNumber_52 rfl rfl ?_
        refine zo_get (i := i_Ho_hearNumber) (pc := 53) 9 8 rfl zok_Ho (Nat.le_of_ble_eq_true rfl) (ztb_of k_270 rfl) d_Ho_hearNumber_53 (fun _ _ _ h => h) (hs.get (t := 0) rfl) rfl ?_
        refine zc_VN2 (i := i_Ho_hearNumber) (pc := 56) 2 rfl m_Ne_enter (ztb_of k_485 rfl) (ztb_of k_487 rfl) s_Ne_enter d_Ho_hearNumber_56 (Nat.le_of_ble_eq_true rfl) (Nat.le_of_ble_eq_true rfl) (Nat.le_of_ble_eq_true rfl) (Nat.le_of_ble_eq_true rfl) (hs.get (t := 5) rfl) (c_Ne_enter hs.f2 fun ws hs => ?_)
        replace hs := hs.f2'
        refine zo_aload_n (i := i_Ho_hearNumber) (pc := 59) d_Ho_hearNumber_59 rfl rfl ?_
        refine zo_aload_n (i := i_Ho_hearNumber) (pc := 60) d_Ho_hearNumber_60 rfl rfl ?_
        refine zc_V1 (i := i_Ho_hearNumber) (pc := 61) 9 rfl m_Ho_sendWaiting (ztb_of k_576 rfl) (ztb_of k_578 rfl) s_Ho_sendWaiting d_Ho_hearNumber_61 (Nat.le_of_ble_eq_true rfl) (Nat.le_of_ble_eq_true rfl) (Nat.le_of_ble_eq_true rfl) (Nat.le_of_ble_eq_true rfl) (hs.get (t := 0) rfl) (c_Ho_sendWaiting hs fun ws hs => ?_)
        refine zo_goto (i := i_Ho_hearNumber) (pc := 64) (tgt := 132) d_Ho_hearNumber_64 (by decide) ?_
        refine zo_aload_n (i := i_Ho_hearNumber) (pc := 132) d_Ho_hearNumber_132 rfl rfl ?_
        refine zo_aload_n (i := i_Ho_hearNumber) (pc := 133) d_Ho_hearNumber_133 rfl rfl ?_
        refine zo_iload_n (i := i_Ho_hearNumber) (pc := 134) d_Ho_hearNumber_134 rfl ?_
        refine zo_iconst (i := i_Ho_hearNumber) (pc := 135) (v := 1) d_Ho_hearNumber_135 (by decide) ?_
        refine zo_iand (i := i_Ho_hearNumber) (pc := 136) d_Ho_hearNumber_136 ?_
        refine zo_if_eq (i := i_Ho_hearNumber) (pc := 137) (tgt := 144) d_Ho_hearNumber_137 (by decide) (fun h137 => ?_) (fun h137 => ?_)
        · refine zo_iconst (i := i_Ho_hearNumber) (pc := 144) (v := 0) d_Ho_hearNumber_144 (by decide) ?_
          replace hs := hu_nb (u := swU u e.2) (y := swX s.2.1 (e.2.1, n, 3, s.2.1, e.2.2.2.2.2)) he hs
          refine zc_V2 (i := i_Ho_hearNumber) (pc := 145) 9 rfl m_Ho_hearWhetherRouter (ztb_of k_680 rfl) (ztb_of k_682 rfl) s_Ho_hearWhetherRouter d_Ho_hearNumber_145 (Nat.le_of_ble_eq_true rfl) (Nat.le_of_ble_eq_true rfl) (Nat.le_of_ble_eq_true rfl) (Nat.le_of_ble_eq_true rfl) (hs.get (t := 0) rfl) (c_Ho_hearWhetherRouter (e := (e.1, swX s.2.1 (e.2.1, n, 3, s.2.1, e.2.2.2.2.2))) (b := false) (hok_set h2) h3 hs (set_at he) fun ro' ws h3' e3 hs => ?_)
          refine zo_return (i := i_Ho_hearNumber) (pc := 148) hq d_Ho_hearNumber_148 rfl (Nat.le_of_ble_eq_true rfl) (Nat.le_of_ble_eq_true rfl) ?_
          have ey : hnX s.2.1 n fl e.2 = swX s.2.1 (e.2.1, n, 3, s.2.1, e.2.2.2.2.2) := by
            unfold hnX
            rw [if_pos hS, if_pos hF]
          have eu : hnU u e.2 = swU u e.2 := if_pos hS
          have eb : (!decide (fl &&& 1 = 0)) = false := by simp [h137]
          rw [ey, eu, eb] at k2
          refine k2 (fun q => q.1 hS) ro' ws h3' e3 ?_
          exact hs.eq (congrArg (fun l => (hL g A s (swU u e.2) ow (nb.1, l) ro' pf pa hd R).flatten) (List.set_set ..))
        · refine zo_iconst (i := i_Ho_hearNumber) (pc := 140) (v := 1) d_Ho_hearNumber_140 (by decide) ?_
          refine zo_goto (i := i_Ho_hearNumber) (pc := 141) (tgt := 145) d_Ho_hearNumber_141 (by decide) ?_
          replace hs := hu_nb (u := swU u e.2) (y := swX s.2.1 (e.2.1, n, 3, s.2.1, e.2.2.2.2.2)) he hs
          refine zc_V2 (i := i_Ho_hearNumber) (pc := 145) 9 rfl m_Ho_hearWhetherRouter (ztb_of k_680 rfl) (ztb_of k_682 rfl) s_Ho_hearWhetherRouter d_Ho_hearNumber_145 (Nat.le_of_ble_eq_true rfl) (Nat.le_of_ble_eq_true rfl) (Nat.le_of_ble_eq_true rfl) (Nat.le_of_ble_eq_true rfl) (hs.get (t := 0) rfl) (c_Ho_hearWhetherRouter (e := (e.1, swX s.2.1 (e.2.1, n, 3, s.2.1, e.2.2.2.2.2))) (b := true) (hok_set h2) h3 hs (set_at he) fun ro' ws h3' e3 hs => ?_)
          refine zo_return (i := i_Ho_hearNumber) (pc := 148) hq d_Ho_hearNumber_148 rfl (Nat.le_of_ble_eq_true rfl) (Nat.le_of_ble_eq_true rfl) ?_
          have ey : hnX s.2.1 n fl e.2 = swX s.2.1 (e.2.1, n, 3, s.2.1, e.2.2.2.2.2) := by
            unfold hnX
            rw [if_pos hS, if_pos hF]
          have eu : hnU u e.2 = swU u e.2 := if_pos hS
          have eb : (!decide (fl &&& 1 = 0)) = true := by simp [h137]
          rw [ey, eu, eb] at k2
          refine k2 (fun q => q.1 hS) ro' ws h3' e3 ?_
          exact hs.eq (congrArg (fun l => (hL g A s (swU u e.2) ow (nb.1, l) ro' pf pa hd R).flatten) (List.set_set ..))
    · refine zo_iconst (i := i_Ho_hearNumber) (pc := 21) (v := 1) d_Ho_hearNumber_21 (by decide) ?_
      refine zo_goto (i := i_Ho_hearNumber) (pc := 22) (tgt := 26) d_Ho_hearNumber_22 (by decide) ?_
      refine zo_istore (i := i_Ho_hearNumber) (pc := 26) d_Ho_hearNumber_26 (Nat.le_of_ble_eq_true rfl) ?_
      refine zo_aload_n (i := i_Ho_hearNumber) (pc := 28) d_Ho_hearNumber_28 rfl rfl ?_
      refine zo_getN (i := i_Ho_hearNumber) (pc := 29) 2 2 rfl zok_Ne (Nat.le_of_ble_eq_true rfl) (ztb_of k_550 rfl) d_Ho_hearNumber_29 (fun _ _ _ h => h) hse rfl ?_
      refine zo_iconst (i := i_Ho_hearNumber) (pc := 32) (v := 1) d_Ho_hearNumber_32 (by decide) ?_
      refine zo_icmp_ne (i := i_Ho_hearNumber) (pc := 33) (tgt := 67) d_Ho_hearNumber_33 (by decide) (fun hS => ?_) (fun hS => ?_)
      · refine zo_iload (i := i_Ho_hearNumber) (pc := 67) d_Ho_hearNumber_67 rfl ?_
        refine zo_if_eq (i := i_Ho_hearNumber) (pc := 69) (tgt := 96) d_Ho_hearNumber_69 (by decide) (fun h69 => False.elim (by first | exact absurd h69 (by decide) | exact absurd (by decide) h69)) (fun h69 => ?_)
        refine zo_iload_n (i := i_Ho_hearNumber) (pc := 72) d_Ho_hearNumber_72 rfl ?_
        refine zo_iconst (i := i_Ho_hearNumber) (pc := 73) (v := 4) d_Ho_hearNumber_73 (by decide) ?_
        refine zo_iand (i := i_Ho_hearNumber) (pc := 74) d_Ho_hearNumber_74 ?_
        refine zo_if_ne (i := i_Ho_hearNumber) (pc := 75) (tgt := 96) d_Ho_hearNumber_75 (by decide) (fun hO => ?_) (fun hO => ?_)
        · replace hs := hv_nb hs he
          refine zo_aload_n (i := i_Ho_hearNumber) (pc := 96) d_Ho_hearNumber_96 rfl rfl ?_
          refine zo_iload_n (i := i_Ho_hearNumber) (pc := 97) d_Ho_hearNumber_97 rfl ?_
          refine zh_putN (i := i_Ho_hearNumber) (pc := 98) 2 1 rfl zok_Ne (Nat.le_of_ble_eq_true rfl) (ztb_of k_548 rfl) rfl d_Ho_hearNumber_98 (fun _ _ _ h => h) (t_Ne_ok 1 (Nat.le_of_ble_eq_true rfl)) rfl rfl hs 5 rfl (Nat.le_of_ble_eq_true rfl) fun ws hs => ?_
          replace hs : zHas ws (hoC A s :: (ouN g A u ++ ((e.1, .inr (2, ndV (e.2.1, n, e.2.2.2))) :: rwX g 3 2 ndV (A 7) (A 8) nb.1.1 nb.1.2 [] nb.2 j (owW g A ow ++ (roW g A ro ++ (pfW g A pf ++ (paW g A pa ++ (heW g A hd ++ (R ++ []))))))))) := hs
          refine zo_iload (i := i_Ho_hearNumber) (pc := 101) d_Ho_hearNumber_101 rfl ?_
          refine zo_if_eq (i := i_Ho_hearNumber) (pc := 103) (tgt := 118) d_Ho_hearNumber_103 (by decide) (fun h103 => ?_) (fun h103 => False.elim (by first | exact absurd h103 (rfl) | exact absurd (rfl) h103))
          refine zo_iload (i := i_Ho_hearNumber) (pc := 118) d_Ho_hearNumber_118 rfl ?_
          refine zo_if_eq (i := i_Ho_hearNumber) (pc := 120) (tgt := 132) d_Ho_hearNumber_120 (by decide) (fun h120 => False.elim (by first | exact absurd h120 (by decide) | exact absurd (by decide) h120)) (fun h120 => ?_)
          refine zo_aload_n (i := i_Ho_hearNumber) (pc := 123) d_Ho_hearNumber_123 rfl rfl ?_
          refine zo_iconst (i := i_Ho_hearNumber) (pc := 124) (v := 3) d_Ho_hearNumber_124 (by decide) ?_
          refine zo_aload_n (i := i_Ho_hearNumber) (pc := 125) d_Ho_hearNumber_125 rfl rfl ?_
          refine zo_get (i := i_Ho_hearNumber) (pc := 126) 9 8 rfl zok_Ho (Nat.le_of_ble_eq_true rfl) (ztb_of k_270 rfl) d_Ho_hearNumber_126 (fun _ _ _ h => h) (hs.get (t := 0) rfl) rfl ?_
          refine zc_VN2 (i := i_Ho_hearNumber) (pc := 129) 2 rfl m_Ne_enter (ztb_of k_485 rfl) (ztb_of k_487 rfl) s_Ne_enter d_Ho_hearNumber_129 (Nat.le_of_ble_eq_true rfl) (Nat.le_of_ble_eq_true rfl) (Nat.le_of_ble_eq_true rfl) (Nat.le_of_ble_eq_true rfl) (hs.get (t := 5) rfl) (c_Ne_enter hs.f2 fun ws hs => ?_)
          replace hs := hs.f2'
          refine zo_aload_n (i := i_Ho_hearNumber) (pc := 132) d_Ho_hearNumber_132 rfl rfl ?_
          refine zo_aload_n (i := i_Ho_hearNumber) (pc := 133) d_Ho_hearNumber_133 rfl rfl ?_
          refine zo_iload_n (i := i_Ho_hearNumber) (pc := 134) d_Ho_hearNumber_134 rfl ?_
          refine zo_iconst (i := i_Ho_hearNumber) (pc := 135) (v := 1) d_Ho_hearNumber_135 (by decide) ?_
          refine zo_iand (i := i_Ho_hearNumber) (pc := 136) d_Ho_hearNumber_136 ?_
          refine zo_if_eq (i := i_Ho_hearNumber) (pc := 137) (tgt := 144) d_Ho_hearNumber_137 (by decide) (fun h137 => ?_) (fun h137 => ?_)
          · refine zo_iconst (i := i_Ho_hearNumber) (pc := 144) (v := 0) d_Ho_hearNumber_144 (by decide) ?_
            replace hs := hu_nb (u := u) (y := ndS (e.2.1, n, e.2.2.2) 3 s.2.1) he hs
            refine zc_V2 (i := i_Ho_hearNumber) (pc := 145) 9 rfl m_Ho_hearWhetherRouter (ztb_of k_680 rfl) (ztb_of k_682 rfl) s_Ho_hearWhetherRouter d_Ho_hearNumber_145 (Nat.le_of_ble_eq_true rfl) (Nat.le_of_ble_eq_true rfl) (Nat.le_of_ble_eq_true rfl) (Nat.le_of_ble_eq_true rfl) (hs.get (t := 0) rfl) (c_Ho_hearWhetherRouter (e := (e.1, ndS (e.2.1, n, e.2.2.2) 3 s.2.1)) (b := false) (hok_set h2) h3 hs (set_at he) fun ro' ws h3' e3 hs => ?_)
            refine zo_return (i := i_Ho_hearNumber) (pc := 148) hq d_Ho_hearNumber_148 rfl (Nat.le_of_ble_eq_true rfl) (Nat.le_of_ble_eq_true rfl) ?_
            have ey : hnX s.2.1 n fl e.2 = ndS (e.2.1, n, e.2.2.2) 3 s.2.1 := by
              unfold hnX
              rw [if_neg hS, if_pos hF, if_neg hN]
            have eu : hnU u e.2 = u := if_neg hS
            have eb : (!decide (fl &&& 1 = 0)) = false := by simp [h137]
            rw [ey, eu, eb] at k2
            refine k2 (fun q => hO q.2.2) ro' ws h3' e3 ?_
            exact hs.eq (congrArg (fun l => (hL g A s (u) ow (nb.1, l) ro' pf pa hd R).flatten) (List.set_set ..))
          · refine zo_iconst (i := i_Ho_hearNumber) (pc := 140) (v := 1) d_Ho_hearNumber_140 (by decide) ?_
            refine zo_goto (i := i_Ho_hearNumber) (pc := 141) (tgt := 145) d_Ho_hearNumber_141 (by decide) ?_
            replace hs := hu_nb (u := u) (y := ndS (e.2.1, n, e.2.2.2) 3 s.2.1) he hs
            refine zc_V2 (i := i_Ho_hearNumber) (pc := 145) 9 rfl m_Ho_hearWhetherRouter (ztb_of k_680 rfl) (ztb_of k_682 rfl) s_Ho_hearWhetherRouter d_Ho_hearNumber_145 (Nat.le_of_ble_eq_true rfl) (Nat.le_of_ble_eq_true rfl) (Nat.le_of_ble_eq_true rfl) (Nat.le_of_ble_eq_true rfl) (hs.get (t := 0) rfl) (c_Ho_hearWhetherRouter (e := (e.1, ndS (e.2.1, n, e.2.2.2) 3 s.2.1)) (b := true) (hok_set h2) h3 hs (set_at he) fun ro' ws h3' e3 hs => ?_)
            refine zo_return (i := i_Ho_hearNumber) (pc := 148) hq d_Ho_hearNumber_148 rfl (Nat.le_of_ble_eq_true rfl) (Nat.le_of_ble_eq_true rfl) ?_
            have ey : hnX s.2.1 n fl e.2 = ndS (e.2.1, n, e.2.2.2) 3 s.2.1 := by
              unfold hnX
              rw [if_neg hS, if_pos hF, if_neg hN]
            have eu : hnU u e.2 = u := if_neg hS
            have eb : (!decide (fl &&& 1 = 0)) = true := by simp [h137]
            rw [ey, eu, eb] at k2
            refine k2 (fun q => hO q.2.2) ro' ws h3' e3 ?_
            exact hs.eq (congrArg (fun l => (hL g A s (u) ow (nb.1, l) ro' pf pa hd R).flatten) (List.set_set ..))
        · refine zo_aload_n (i := i_Ho_hearNumber) (pc := 78) d_Ho_hearNumber_78 rfl rfl ?_
          refine zo_getN (i := i_Ho_hearNumber) (pc := 79) 2 2 rfl zok_Ne (Nat.le_of_ble_eq_true rfl) (ztb_of k_550 rfl) d_Ho_hearNumber_79 (fun _ _ _ h => h) hse rfl ?_
          refine zo_iconst (i := i_Ho_hearNumber) (pc := 82) (v := 2) d_Ho_hearNumber_82 (by decide) ?_
          refine zo_icmp_ne (i := i_Ho_hearNumber) (pc := 83) (tgt := 95) d_Ho_hearNumber_83 (by decide) (fun h83 => ?_) (fun h83 => ?_)
          · replace hs := hv_nb hs he
            refine zo_return (i := i_Ho_hearNumber) (pc := 95) hq d_Ho_hearNumber_95 rfl (Nat.le_of_ble_eq_true rfl) (Nat.le_of_ble_eq_true rfl) ?_
            refine k1 ⟨hS, hN, hO⟩ ws ?_
            rw [if_neg h83]
            exact hu_nb he hs
          · replace hs := hv_nb hs he
            refine zo_aload_n (i := i_Ho_hearNumber) (pc := 86) d_Ho_hearNumber_86 rfl rfl ?_
            refine zo_iconst (i := i_Ho_hearNumber) (pc := 87) (v := 3) d_Ho_hearNumber_87 (by decide) ?_
            refine zo_aload_n (i := i_Ho_hearNumber) (pc := 88) d_Ho_hearNumber_88 rfl rfl ?_
            refine zo_get (i := i_Ho_hearNumber) (pc := 89) 9 8 rfl zok_Ho (Nat.le_of_ble_eq_true rfl) (ztb_of k_270 rfl) d_Ho_hearNumber_89 (fun _ _ _ h => h) (hs.get (t := 0) rfl) rfl ?_
            refine zc_VN2 (i := i_Ho_hearNumber) (pc := 92) 2 rfl m_Ne_enter (ztb_of k_485 rfl) (ztb_of k_487 rfl) s_Ne_enter d_Ho_hearNumber_92 (Nat.le_of_ble_eq_true rfl) (Nat.le_of_ble_eq_true rfl) (Nat.le_of_ble_eq_true rfl) (Nat.le_of_ble_eq_true rfl) (hs.get (t := 5) rfl) (c_Ne_enter hs.f2 fun ws hs => ?_)
            replace hs := hs.f2'
            
            refine zo_return (i := i_Ho_hearNumber) (pc := 95) hq d_Ho_hearNumber_95 rfl (Nat.le_of_ble_eq_true rfl) (Nat.le_of_ble_eq_true rfl) ?_
            refine k1 ⟨hS, hN, hO⟩ ws ?_
            rw [if_pos h83]
            exact hu_nb he hs
      · replace hs := hv_nb hs he
        refine zo_aload_n (i := i_Ho_hearNumber) (pc := 36) d_Ho_hearNumber_36 rfl rfl ?_
        refine zo_iload_n (i := i_Ho_hearNumber) (pc := 37) d_Ho_hearNumber_37 rfl ?_
        refine zh_putN (i := i_Ho_hearNumber) (pc := 38) 2 1 rfl zok_Ne (Nat.le_of_ble_eq_true rfl) (ztb_of k_548 rfl) rfl d_Ho_hearNumber_38 (fun _ _ _ h => h) (t_Ne_ok 1 (Nat.le_of_ble_eq_true rfl)) rfl rfl hs 5 rfl (Nat.le_of_ble_eq_true rfl) fun ws hs => ?_
        replace hs : zHas ws (hoC A s :: (ouN g A u ++ ((e.1, .inr (2, ndV (e.2.1, n, e.2.2.2))) :: rwX g 3 2 ndV (A 7) (A 8) nb.1.1 nb.1.2 [] nb.2 j (owW g A ow ++ (roW g A ro ++ (pfW g A pf ++ (paW g A pa ++ (heW g A hd ++ (R ++ []))))))))) := hs
        refine zo_aload_n (i := i_Ho_hearNumber) (pc := 41) d_Ho_hearNumber_41 rfl rfl ?_
        refine zo_iload (i := i_Ho_hearNumber) (pc := 42) d_Ho_hearNumber_42 rfl ?_
        refine zo_if_eq (i := i_Ho_hearNumber) (pc := 44) (tgt := 51) d_Ho_hearNumber_44 (by decide) (fun h44 => ?_) (fun h44 => False.elim (by first | exact absurd h44 (rfl) | exact absurd (rfl) h44))
        refine zo_iconst (i := i_Ho_hearNumber) (pc := 51) (v := 3) d_Ho_hearNumber_51 (by decide) ?_
        refine zo_aload_n (i := i_Ho_hearNumber) (pc := 52) d_Ho_hearNumber_52 rfl rfl ?_
        refine zo_get (i := i_Ho_hearNumber) (pc := 53) 9 8 rfl zok_Ho (Nat.le_of_ble_eq_true rfl) (ztb_of k_270 rfl) d_Ho_hearNumber_53 (fun _ _ _ h => h) (hs.get (t := 0) rfl) rfl ?_
        refine zc_VN2 (i := i_Ho_hearNumber) (pc := 56) 2 rfl m_Ne_enter (ztb_of k_485 rfl) (ztb_of k_487 rfl) s_Ne_enter d_Ho_hearNumber_56 (Nat.le_of_ble_eq_true rfl) (Nat.le_of_ble_eq_true rfl) (Nat.le_of_ble_eq_true rfl) (Nat.le_of_ble_eq_true rfl) (hs.get (t := 5) rfl) (c_Ne_enter hs.f2 fun ws hs => ?_)
        replace hs := hs.f2'
        refine zo_aload_n (i := i_Ho_hearNumber) (pc := 59) d_Ho_hearNumber_59 rfl rfl ?_
        refine zo_aload_n (i := i_Ho_hearNumber) (pc := 60) d_Ho_hearNumber_60 rfl rfl ?_
        refine zc_V1 (i := i_Ho_hearNumber) (pc := 61) 9 rfl m_Ho_sendWaiting (ztb_of k_576 rfl) (ztb_of k_578 rfl) s_Ho_sendWaiting d_Ho_hearNumber_61 (Nat.le_of_ble_eq_true rfl) (Nat.le_of_ble_eq_true rfl) (Nat.le_of_ble_eq_true rfl) (Nat.le_of_ble_eq_true rfl) (hs.get (t := 0) rfl) (c_Ho_sendWaiting hs fun ws hs => ?_)
        refine zo_goto (i := i_Ho_hearNumber) (pc := 64) (tgt := 132) d_Ho_hearNumber_64 (by decide) ?_
        refine zo_aload_n (i := i_Ho_hearNumber) (pc := 132) d_Ho_hearNumber_132 rfl rfl ?_
        refine zo_aload_n (i := i_Ho_hearNumber) (pc := 133) d_Ho_hearNumber_133 rfl rfl ?_
        refine zo_iload_n (i := i_Ho_hearNumber) (pc := 134) d_Ho_hearNumber_134 rfl ?_
        refine zo_iconst (i := i_Ho_hearNumber) (pc := 135) (v := 1) d_Ho_hearNumber_135 (by decide) ?_
        refine zo_iand (i := i_Ho_hearNumber) (pc := 136) d_Ho_hearNumber_136 ?_
        refine zo_if_eq (i := i_Ho_hearNumber) (pc := 137) (tgt := 144) d_Ho_hearNumber_137 (by decide) (fun h137 => ?_) (fun h137 => ?_)
        · refine zo_iconst (i := i_Ho_hearNumber) (pc := 144) (v := 0) d_Ho_hearNumber_144 (by decide) ?_
          replace hs := hu_nb (u := swU u e.2) (y := swX s.2.1 (e.2.1, n, 3, s.2.1, e.2.2.2.2.2)) he hs
          refine zc_V2 (i := i_Ho_hearNumber) (pc := 145) 9 rfl m_Ho_hearWhetherRouter (ztb_of k_680 rfl) (ztb_of k_682 rfl) s_Ho_hearWhetherRouter d_Ho_hearNumber_145 (Nat.le_of_ble_eq_true rfl) (Nat.le_of_ble_eq_true rfl) (Nat.le_of_ble_eq_true rfl) (Nat.le_of_ble_eq_true rfl) (hs.get (t := 0) rfl) (c_Ho_hearWhetherRouter (e := (e.1, swX s.2.1 (e.2.1, n, 3, s.2.1, e.2.2.2.2.2))) (b := false) (hok_set h2) h3 hs (set_at he) fun ro' ws h3' e3 hs => ?_)
          refine zo_return (i := i_Ho_hearNumber) (pc := 148) hq d_Ho_hearNumber_148 rfl (Nat.le_of_ble_eq_true rfl) (Nat.le_of_ble_eq_true rfl) ?_
          have ey : hnX s.2.1 n fl e.2 = swX s.2.1 (e.2.1, n, 3, s.2.1, e.2.2.2.2.2) := by
            unfold hnX
            rw [if_pos hS, if_pos hF]
          have eu : hnU u e.2 = swU u e.2 := if_pos hS
          have eb : (!decide (fl &&& 1 = 0)) = false := by simp [h137]
          rw [ey, eu, eb] at k2
          refine k2 (fun q => q.1 hS) ro' ws h3' e3 ?_
          exact hs.eq (congrArg (fun l => (hL g A s (swU u e.2) ow (nb.1, l) ro' pf pa hd R).flatten) (List.set_set ..))
        · refine zo_iconst (i := i_Ho_hearNumber) (pc := 140) (v := 1) d_Ho_hearNumber_140 (by decide) ?_
          refine zo_goto (i := i_Ho_hearNumber) (pc := 141) (tgt := 145) d_Ho_hearNumber_141 (by decide) ?_
          replace hs := hu_nb (u := swU u e.2) (y := swX s.2.1 (e.2.1, n, 3, s.2.1, e.2.2.2.2.2)) he hs
          refine zc_V2 (i := i_Ho_hearNumber) (pc := 145) 9 rfl m_Ho_hearWhetherRouter (ztb_of k_680 rfl) (ztb_of k_682 rfl) s_Ho_hearWhetherRouter d_Ho_hearNumber_145 (Nat.le_of_ble_eq_true rfl) (Nat.le_of_ble_eq_true rfl) (Nat.le_of_ble_eq_true rfl) (Nat.le_of_ble_eq_true rfl) (hs.get (t := 0) rfl) (c_Ho_hearWhetherRouter (e := (e.1, swX s.2.1 (e.2.1, n, 3, s.2.1, e.2.2.2.2.2))) (b := true) (hok_set h2) h3 hs (set_at he) fun ro' ws h3' e3 hs => ?_)
          refine zo_return (i := i_Ho_hearNumber) (pc := 148) hq d_Ho_hearNumber_148 rfl (Nat.le_of_ble_eq_true rfl) (Nat.le_of_ble_eq_true rfl) ?_
          have ey : hnX s.2.1 n fl e.2 = swX s.2.1 (e.2.1, n, 3, s.2.1, e.2.2.2.2.2) := by
            unfold hnX
            rw [if_pos hS, if_pos hF]
          have eu : hnU u e.2 = swU u e.2 := if_pos hS
          have eb : (!decide (fl &&& 1 = 0)) = true := by simp [h137]
          rw [ey, eu, eb] at k2
          refine k2 (fun q => q.1 hS) ro' ws h3' e3 ?_
          exact hs.eq (congrArg (fun l => (hL g A s (swU u e.2) ow (nb.1, l) ro' pf pa hd R).flatten) (List.set_set ..))
  · refine zo_iconst (i := i_Ho_hearNumber) (pc := 6) (v := 1) d_Ho_hearNumber_6 (by decide) ?_
    refine zo_goto (i := i_Ho_hearNumber) (pc := 7) (tgt := 11) d_Ho_hearNumber_7 (by decide) ?_
    refine zo_istore (i := i_Ho_hearNumber) (pc := 11) d_Ho_hearNumber_11 (Nat.le_of_ble_eq_true rfl) ?_
    refine zo_aload_n (i := i_Ho_hearNumber) (pc := 13) d_Ho_hearNumber_13 rfl rfl ?_
    refine zo_getN (i := i_Ho_hearNumber) (pc := 14) 2 1 rfl zok_Ne (Nat.le_of_ble_eq_true rfl) (ztb_of k_548 rfl) d_Ho_hearNumber_14 (fun _ _ _ h => h) hse rfl ?_
    refine zo_iload_n (i := i_Ho_hearNumber) (pc := 17) d_Ho_hearNumber_17 rfl ?_
    refine zo_icmp_eq (i := i_Ho_hearNumber) (pc := 18) (tgt := 25) d_Ho_hearNumber_18 (by decide) (fun hN => ?_) (fun hN => ?_)
    · refine zo_iconst (i := i_Ho_hearNumber) (pc := 25) (v := 0) d_Ho_hearNumber_25 (by decide) ?_
      refine zo_istore (i := i_Ho_hearNumber) (pc := 26) d_Ho_hearNumber_26 (Nat.le_of_ble_eq_true rfl) ?_
      refine zo_aload_n (i := i_Ho_hearNumber) (pc := 28) d_Ho_hearNumber_28 rfl rfl ?_
      refine zo_getN (i := i_Ho_hearNumber) (pc := 29) 2 2 rfl zok_Ne (Nat.le_of_ble_eq_true rfl) (ztb_of k_550 rfl) d_Ho_hearNumber_29 (fun _ _ _ h => h) hse rfl ?_
      refine zo_iconst (i := i_Ho_hearNumber) (pc := 32) (v := 1) d_Ho_hearNumber_32 (by decide) ?_
      refine zo_icmp_ne (i := i_Ho_hearNumber) (pc := 33) (tgt := 67) d_Ho_hearNumber_33 (by decide) (fun hS => ?_) (fun hS => ?_)
      · refine zo_iload (i := i_Ho_hearNumber) (pc := 67) d_Ho_hearNumber_67 rfl ?_
        refine zo_if_eq (i := i_Ho_hearNumber) (pc := 69) (tgt := 96) d_Ho_hearNumber_69 (by decide) (fun h69 => ?_) (fun h69 => False.elim (by first | exact absurd h69 (rfl) | exact absurd (rfl) h69))
        replace hs := hv_nb hs he
        refine zo_aload_n (i := i_Ho_hearNumber) (pc := 96) d_Ho_hearNumber_96 rfl rfl ?_
        refine zo_iload_n (i := i_Ho_hearNumber) (pc := 97) d_Ho_hearNumber_97 rfl ?_
        refine zh_putN (i := i_Ho_hearNumber) (pc := 98) 2 1 rfl zok_Ne (Nat.le_of_ble_eq_true rfl) (ztb_of k_548 rfl) rfl d_Ho_hearNumber_98 (fun _ _ _ h => h) (t_Ne_ok 1 (Nat.le_of_ble_eq_true rfl)) rfl rfl hs 5 rfl (Nat.le_of_ble_eq_true rfl) fun ws hs => ?_
        replace hs : zHas ws (hoC A s :: (ouN g A u ++ ((e.1, .inr (2, ndV (e.2.1, n, e.2.2.2))) :: rwX g 3 2 ndV (A 7) (A 8) nb.1.1 nb.1.2 [] nb.2 j (owW g A ow ++ (roW g A ro ++ (pfW g A pf ++ (paW g A pa ++ (heW g A hd ++ (R ++ []))))))))) := hs
        refine zo_iload (i := i_Ho_hearNumber) (pc := 101) d_Ho_hearNumber_101 rfl ?_
        refine zo_if_eq (i := i_Ho_hearNumber) (pc := 103) (tgt := 118) d_Ho_hearNumber_103 (by decide) (fun h103 => False.elim (by first | exact absurd h103 (by decide) | exact absurd (by decide) h103)) (fun h103 => ?_)
        refine zo_aload_n (i := i_Ho_hearNumber) (pc := 106) d_Ho_hearNumber_106 rfl rfl ?_
        refine zo_iconst (i := i_Ho_hearNumber) (pc := 107) (v := 2) d_Ho_hearNumber_107 (by decide) ?_
        refine zo_aload_n (i := i_Ho_hearNumber) (pc := 108) d_Ho_hearNumber_108 rfl rfl ?_
        refine zo_get (i := i_Ho_hearNumber) (pc := 109) 9 8 rfl zok_Ho (Nat.le_of_ble_eq_true rfl) (ztb_of k_270 rfl) d_Ho_hearNumber_109 (fun _ _ _ h => h) (hs.get (t := 0) rfl) rfl ?_
        refine zc_VN2 (i := i_Ho_hearNumber) (pc := 112) 2 rfl m_Ne_enter (ztb_of k_485 rfl) (ztb_of k_487 rfl) s_Ne_enter d_Ho_hearNumber_112 (Nat.le_of_ble_eq_true rfl) (Nat.le_of_ble_eq_true rfl) (Nat.le_of_ble_eq_true rfl) (Nat.le_of_ble_eq_true rfl) (hs.get (t := 5) rfl) (c_Ne_enter hs.f2 fun ws hs => ?_)
        replace hs := hs.f2'
        refine zo_goto (i := i_Ho_hearNumber) (pc := 115) (tgt := 132) d_Ho_hearNumber_115 (by decide) ?_
        refine zo_aload_n (i := i_Ho_hearNumber) (pc := 132) d_Ho_hearNumber_132 rfl rfl ?_
        refine zo_aload_n (i := i_Ho_hearNumber) (pc := 133) d_Ho_hearNumber_133 rfl rfl ?_
        refine zo_iload_n (i := i_Ho_hearNumber) (pc := 134) d_Ho_hearNumber_134 rfl ?_
        refine zo_iconst (i := i_Ho_hearNumber) (pc := 135) (v := 1) d_Ho_hearNumber_135 (by decide) ?_
        refine zo_iand (i := i_Ho_hearNumber) (pc := 136) d_Ho_hearNumber_136 ?_
        refine zo_if_eq (i := i_Ho_hearNumber) (pc := 137) (tgt := 144) d_Ho_hearNumber_137 (by decide) (fun h137 => ?_) (fun h137 => ?_)
        · refine zo_iconst (i := i_Ho_hearNumber) (pc := 144) (v := 0) d_Ho_hearNumber_144 (by decide) ?_
          replace hs := hu_nb (u := u) (y := ndS (e.2.1, n, e.2.2.2) 2 s.2.1) he hs
          refine zc_V2 (i := i_Ho_hearNumber) (pc := 145) 9 rfl m_Ho_hearWhetherRouter (ztb_of k_680 rfl) (ztb_of k_682 rfl) s_Ho_hearWhetherRouter d_Ho_hearNumber_145 (Nat.le_of_ble_eq_true rfl) (Nat.le_of_ble_eq_true rfl) (Nat.le_of_ble_eq_true rfl) (Nat.le_of_ble_eq_true rfl) (hs.get (t := 0) rfl) (c_Ho_hearWhetherRouter (e := (e.1, ndS (e.2.1, n, e.2.2.2) 2 s.2.1)) (b := false) (hok_set h2) h3 hs (set_at he) fun ro' ws h3' e3 hs => ?_)
          refine zo_return (i := i_Ho_hearNumber) (pc := 148) hq d_Ho_hearNumber_148 rfl (Nat.le_of_ble_eq_true rfl) (Nat.le_of_ble_eq_true rfl) ?_
          have ey : hnX s.2.1 n fl e.2 = ndS (e.2.1, n, e.2.2.2) 2 s.2.1 := by
            unfold hnX
            rw [if_neg hS, if_neg hF]
          have eu : hnU u e.2 = u := if_neg hS
          have eb : (!decide (fl &&& 1 = 0)) = false := by simp [h137]
          rw [ey, eu, eb] at k2
          refine k2 (fun q => q.2.1 hN) ro' ws h3' e3 ?_
          exact hs.eq (congrArg (fun l => (hL g A s (u) ow (nb.1, l) ro' pf pa hd R).flatten) (List.set_set ..))
        · refine zo_iconst (i := i_Ho_hearNumber) (pc := 140) (v := 1) d_Ho_hearNumber_140 (by decide) ?_
          refine zo_goto (i := i_Ho_hearNumber) (pc := 141) (tgt := 145) d_Ho_hearNumber_141 (by decide) ?_
          replace hs := hu_nb (u := u) (y := ndS (e.2.1, n, e.2.2.2) 2 s.2.1) he hs
          refine zc_V2 (i := i_Ho_hearNumber) (pc := 145) 9 rfl m_Ho_hearWhetherRouter (ztb_of k_680 rfl) (ztb_of k_682 rfl) s_Ho_hearWhetherRouter d_Ho_hearNumber_145 (Nat.le_of_ble_eq_true rfl) (Nat.le_of_ble_eq_true rfl) (Nat.le_of_ble_eq_true rfl) (Nat.le_of_ble_eq_true rfl) (hs.get (t := 0) rfl) (c_Ho_hearWhetherRouter (e := (e.1, ndS (e.2.1, n, e.2.2.2) 2 s.2.1)) (b := true) (hok_set h2) h3 hs (set_at he) fun ro' ws h3' e3 hs => ?_)
          refine zo_return (i := i_Ho_hearNumber) (pc := 148) hq d_Ho_hearNumber_148 rfl (Nat.le_of_ble_eq_true rfl) (Nat.le_of_ble_eq_true rfl) ?_
          have ey : hnX s.2.1 n fl e.2 = ndS (e.2.1, n, e.2.2.2) 2 s.2.1 := by
            unfold hnX
            rw [if_neg hS, if_neg hF]
          have eu : hnU u e.2 = u := if_neg hS
          have eb : (!decide (fl &&& 1 = 0)) = true := by simp [h137]
          rw [ey, eu, eb] at k2
          refine k2 (fun q => q.2.1 hN) ro' ws h3' e3 ?_
          exact hs.eq (congrArg (fun l => (hL g A s (u) ow (nb.1, l) ro' pf pa hd R).flatten) (List.set_set ..))
      · replace hs := hv_nb hs he
        refine zo_aload_n (i := i_Ho_hearNumber) (pc := 36) d_Ho_hearNumber_36 rfl rfl ?_
        refine zo_iload_n (i := i_Ho_hearNumber) (pc := 37) d_Ho_hearNumber_37 rfl ?_
        refine zh_putN (i := i_Ho_hearNumber) (pc := 38) 2 1 rfl zok_Ne (Nat.le_of_ble_eq_true rfl) (ztb_of k_548 rfl) rfl d_Ho_hearNumber_38 (fun _ _ _ h => h) (t_Ne_ok 1 (Nat.le_of_ble_eq_true rfl)) rfl rfl hs 5 rfl (Nat.le_of_ble_eq_true rfl) fun ws hs => ?_
        replace hs : zHas ws (hoC A s :: (ouN g A u ++ ((e.1, .inr (2, ndV (e.2.1, n, e.2.2.2))) :: rwX g 3 2 ndV (A 7) (A 8) nb.1.1 nb.1.2 [] nb.2 j (owW g A ow ++ (roW g A ro ++ (pfW g A pf ++ (paW g A pa ++ (heW g A hd ++ (R ++ []))))))))) := hs
        refine zo_aload_n (i := i_Ho_hearNumber) (pc := 41) d_Ho_hearNumber_41 rfl rfl ?_
        refine zo_iload (i := i_Ho_hearNumber) (pc := 42) d_Ho_hearNumber_42 rfl ?_
        refine zo_if_eq (i := i_Ho_hearNumber) (pc := 44) (tgt := 51) d_Ho_hearNumber_44 (by decide) (fun h44 => False.elim (by first | exact absurd h44 (by decide) | exact absurd (by decide) h44)) (fun h44 => ?_)
        refine zo_iconst (i := i_Ho_hearNumber) (pc := 47) (v := 2) d_Ho_hearNumber_47 (by decide) ?_
        refine zo_goto (i := i_Ho_hearNumber) (pc := 48) (tgt := 52) d_Ho_hearNumber_48 (by decide) ?_
        refine zo_aload_n (i := i_Ho_hearNumber) (pc := 52) d_Ho_hearNumber_52 rfl rfl ?_
        refine zo_get (i := i_Ho_hearNumber) (pc := 53) 9 8 rfl zok_Ho (Nat.le_of_ble_eq_true rfl) (ztb_of k_270 rfl) d_Ho_hearNumber_53 (fun _ _ _ h => h) (hs.get (t := 0) rfl) rfl ?_
        refine zc_VN2 (i := i_Ho_hearNumber) (pc := 56) 2 rfl m_Ne_enter (ztb_of k_485 rfl) (ztb_of k_487 rfl) s_Ne_enter d_Ho_hearNumber_56 (Nat.le_of_ble_eq_true rfl) (Nat.le_of_ble_eq_true rfl) (Nat.le_of_ble_eq_true rfl) (Nat.le_of_ble_eq_true rfl) (hs.get (t := 5) rfl) (c_Ne_enter hs.f2 fun ws hs => ?_)
        replace hs := hs.f2'
        refine zo_aload_n (i := i_Ho_hearNumber) (pc := 59) d_Ho_hearNumber_59 rfl rfl ?_
        refine zo_aload_n (i := i_Ho_hearNumber) (pc := 60) d_Ho_hearNumber_60 rfl rfl ?_
        refine zc_V1 (i := i_Ho_hearNumber) (pc := 61) 9 rfl m_Ho_sendWaiting (ztb_of k_576 rfl) (ztb_of k_578 rfl) s_Ho_sendWaiting d_Ho_hearNumber_61 (Nat.le_of_ble_eq_true rfl) (Nat.le_of_ble_eq_true rfl) (Nat.le_of_ble_eq_true rfl) (Nat.le_of_ble_eq_true rfl) (hs.get (t := 0) rfl) (c_Ho_sendWaiting hs fun ws hs => ?_)
        refine zo_goto (i := i_Ho_hearNumber) (pc := 64) (tgt := 132) d_Ho_hearNumber_64 (by decide) ?_
        refine zo_aload_n (i := i_Ho_hearNumber) (pc := 132) d_Ho_hearNumber_132 rfl rfl ?_
        refine zo_aload_n (i := i_Ho_hearNumber) (pc := 133) d_Ho_hearNumber_133 rfl rfl ?_
        refine zo_iload_n (i := i_Ho_hearNumber) (pc := 134) d_Ho_hearNumber_134 rfl ?_
        refine zo_iconst (i := i_Ho_hearNumber) (pc := 135) (v := 1) d_Ho_hearNumber_135 (by decide) ?_
        refine zo_iand (i := i_Ho_hearNumber) (pc := 136) d_Ho_hearNumber_136 ?_
        refine zo_if_eq (i := i_Ho_hearNumber) (pc := 137) (tgt := 144) d_Ho_hearNumber_137 (by decide) (fun h137 => ?_) (fun h137 => ?_)
        · refine zo_iconst (i := i_Ho_hearNumber) (pc := 144) (v := 0) d_Ho_hearNumber_144 (by decide) ?_
          replace hs := hu_nb (u := swU u e.2) (y := swX s.2.1 (e.2.1, n, 2, s.2.1, e.2.2.2.2.2)) he hs
          refine zc_V2 (i := i_Ho_hearNumber) (pc := 145) 9 rfl m_Ho_hearWhetherRouter (ztb_of k_680 rfl) (ztb_of k_682 rfl) s_Ho_hearWhetherRouter d_Ho_hearNumber_145 (Nat.le_of_ble_eq_true rfl) (Nat.le_of_ble_eq_true rfl) (Nat.le_of_ble_eq_true rfl) (Nat.le_of_ble_eq_true rfl) (hs.get (t := 0) rfl) (c_Ho_hearWhetherRouter (e := (e.1, swX s.2.1 (e.2.1, n, 2, s.2.1, e.2.2.2.2.2))) (b := false) (hok_set h2) h3 hs (set_at he) fun ro' ws h3' e3 hs => ?_)
          refine zo_return (i := i_Ho_hearNumber) (pc := 148) hq d_Ho_hearNumber_148 rfl (Nat.le_of_ble_eq_true rfl) (Nat.le_of_ble_eq_true rfl) ?_
          have ey : hnX s.2.1 n fl e.2 = swX s.2.1 (e.2.1, n, 2, s.2.1, e.2.2.2.2.2) := by
            unfold hnX
            rw [if_pos hS, if_neg hF]
          have eu : hnU u e.2 = swU u e.2 := if_pos hS
          have eb : (!decide (fl &&& 1 = 0)) = false := by simp [h137]
          rw [ey, eu, eb] at k2
          refine k2 (fun q => q.1 hS) ro' ws h3' e3 ?_
          exact hs.eq (congrArg (fun l => (hL g A s (swU u e.2) ow (nb.1, l) ro' pf pa hd R).flatten) (List.set_set ..))
        · refine zo_iconst (i := i_Ho_hearNumber) (pc := 140) (v := 1) d_Ho_hearNumber_140 (by decide) ?_
          refine zo_goto (i := i_Ho_hearNumber) (pc := 141) (tgt := 145) d_Ho_hearNumber_141 (by decide) ?_
          replace hs := hu_nb (u := swU u e.2) (y := swX s.2.1 (e.2.1, n, 2, s.2.1, e.2.2.2.2.2)) he hs
          refine zc_V2 (i := i_Ho_hearNumber) (pc := 145) 9 rfl m_Ho_hearWhetherRouter (ztb_of k_680 rfl) (ztb_of k_682 rfl) s_Ho_hearWhetherRouter d_Ho_hearNumber_145 (Nat.le_of_ble_eq_true rfl) (Nat.le_of_ble_eq_true rfl) (Nat.le_of_ble_eq_true rfl) (Nat.le_of_ble_eq_true rfl) (hs.get (t := 0) rfl) (c_Ho_hearWhetherRouter (e := (e.1, swX s.2.1 (e.2.1, n, 2, s.2.1, e.2.2.2.2.2))) (b := true) (hok_set h2) h3 hs (set_at he) fun ro' ws h3' e3 hs => ?_)
          refine zo_return (i := i_Ho_hearNumber) (pc := 148) hq d_Ho_hearNumber_148 rfl (Nat.le_of_ble_eq_true rfl) (Nat.le_of_ble_eq_true rfl) ?_
          have ey : hnX s.2.1 n fl e.2 = swX s.2.1 (e.2.1, n, 2, s.2.1, e.2.2.2.2.2) := by
            unfold hnX
            rw [if_pos hS, if_neg hF]
          have eu : hnU u e.2 = swU u e.2 := if_pos hS
          have eb : (!decide (fl &&& 1 = 0)) = true := by simp [h137]
          rw [ey, eu, eb] at k2
          refine k2 (fun q => q.1 hS) ro' ws h3' e3 ?_
          exact hs.eq (congrArg (fun l => (hL g A s (swU u e.2) ow (nb.1, l) ro' pf pa hd R).flatten) (List.set_set ..))
    · refine zo_iconst (i := i_Ho_hearNumber) (pc := 21) (v := 1) d_Ho_hearNumber_21 (by decide) ?_
      refine zo_goto (i := i_Ho_hearNumber) (pc := 22) (tgt := 26) d_Ho_hearNumber_22 (by decide) ?_
      refine zo_istore (i := i_Ho_hearNumber) (pc := 26) d_Ho_hearNumber_26 (Nat.le_of_ble_eq_true rfl) ?_
      refine zo_aload_n (i := i_Ho_hearNumber) (pc := 28) d_Ho_hearNumber_28 rfl rfl ?_
      refine zo_getN (i := i_Ho_hearNumber) (pc := 29) 2 2 rfl zok_Ne (Nat.le_of_ble_eq_true rfl) (ztb_of k_550 rfl) d_Ho_hearNumber_29 (fun _ _ _ h => h) hse rfl ?_
      refine zo_iconst (i := i_Ho_hearNumber) (pc := 32) (v := 1) d_Ho_hearNumber_32 (by decide) ?_
      refine zo_icmp_ne (i := i_Ho_hearNumber) (pc := 33) (tgt := 67) d_Ho_hearNumber_33 (by decide) (fun hS => ?_) (fun hS => ?_)
      · refine zo_iload (i := i_Ho_hearNumber) (pc := 67) d_Ho_hearNumber_67 rfl ?_
        refine zo_if_eq (i := i_Ho_hearNumber) (pc := 69) (tgt := 96) d_Ho_hearNumber_69 (by decide) (fun h69 => False.elim (by first | exact absurd h69 (by decide) | exact absurd (by decide) h69)) (fun h69 => ?_)
        refine zo_iload_n (i := i_Ho_hearNumber) (pc := 72) d_Ho_hearNumber_72 rfl ?_
        refine zo_iconst (i := i_Ho_hearNumber) (pc := 73) (v := 4) d_Ho_hearNumber_73 (by decide) ?_
        refine zo_iand (i := i_Ho_hearNumber) (pc := 74) d_Ho_hearNumber_74 ?_
        refine zo_if_ne (i := i_Ho_hearNumber) (pc := 75) (tgt := 96) d_Ho_hearNumber_75 (by decide) (fun hO => ?_) (fun hO => ?_)
        · replace hs := hv_nb hs he
          refine zo_aload_n (i := i_Ho_hearNumber) (pc := 96) d_Ho_hearNumber_96 rfl rfl ?_
          refine zo_iload_n (i := i_Ho_hearNumber) (pc := 97) d_Ho_hearNumber_97 rfl ?_
          refine zh_putN (i := i_Ho_hearNumber) (pc := 98) 2 1 rfl zok_Ne (Nat.le_of_ble_eq_true rfl) (ztb_of k_548 rfl) rfl d_Ho_hearNumber_98 (fun _ _ _ h => h) (t_Ne_ok 1 (Nat.le_of_ble_eq_true rfl)) rfl rfl hs 5 rfl (Nat.le_of_ble_eq_true rfl) fun ws hs => ?_
          replace hs : zHas ws (hoC A s :: (ouN g A u ++ ((e.1, .inr (2, ndV (e.2.1, n, e.2.2.2))) :: rwX g 3 2 ndV (A 7) (A 8) nb.1.1 nb.1.2 [] nb.2 j (owW g A ow ++ (roW g A ro ++ (pfW g A pf ++ (paW g A pa ++ (heW g A hd ++ (R ++ []))))))))) := hs
          refine zo_iload (i := i_Ho_hearNumber) (pc := 101) d_Ho_hearNumber_101 rfl ?_
          refine zo_if_eq (i := i_Ho_hearNumber) (pc := 103) (tgt := 118) d_Ho_hearNumber_103 (by decide) (fun h103 => False.elim (by first | exact absurd h103 (by decide) | exact absurd (by decide) h103)) (fun h103 => ?_)
          refine zo_aload_n (i := i_Ho_hearNumber) (pc := 106) d_Ho_hearNumber_106 rfl rfl ?_
          refine zo_iconst (i := i_Ho_hearNumber) (pc := 107) (v := 2) d_Ho_hearNumber_107 (by decide) ?_
          refine zo_aload_n (i := i_Ho_hearNumber) (pc := 108) d_Ho_hearNumber_108 rfl rfl ?_
          refine zo_get (i := i_Ho_hearNumber) (pc := 109) 9 8 rfl zok_Ho (Nat.le_of_ble_eq_true rfl) (ztb_of k_270 rfl) d_Ho_hearNumber_109 (fun _ _ _ h => h) (hs.get (t := 0) rfl) rfl ?_
          refine zc_VN2 (i := i_Ho_hearNumber) (pc := 112) 2 rfl m_Ne_enter (ztb_of k_485 rfl) (ztb_of k_487 rfl) s_Ne_enter d_Ho_hearNumber_112 (Nat.le_of_ble_eq_true rfl) (Nat.le_of_ble_eq_true rfl) (Nat.le_of_ble_eq_true rfl) (Nat.le_of_ble_eq_true rfl) (hs.get (t := 5) rfl) (c_Ne_enter hs.f2 fun ws hs => ?_)
          replace hs := hs.f2'
          refine zo_goto (i := i_Ho_hearNumber) (pc := 115) (tgt := 132) d_Ho_hearNumber_115 (by decide) ?_
          refine zo_aload_n (i := i_Ho_hearNumber) (pc := 132) d_Ho_hearNumber_132 rfl rfl ?_
          refine zo_aload_n (i := i_Ho_hearNumber) (pc := 133) d_Ho_hearNumber_133 rfl rfl ?_
          refine zo_iload_n (i := i_Ho_hearNumber) (pc := 134) d_Ho_hearNumber_134 rfl ?_
          refine zo_iconst (i := i_Ho_hearNumber) (pc := 135) (v := 1) d_Ho_hearNumber_135 (by decide) ?_
          refine zo_iand (i := i_Ho_hearNumber) (pc := 136) d_Ho_hearNumber_136 ?_
          refine zo_if_eq (i := i_Ho_hearNumber) (pc := 137) (tgt := 144) d_Ho_hearNumber_137 (by decide) (fun h137 => ?_) (fun h137 => ?_)
          · refine zo_iconst (i := i_Ho_hearNumber) (pc := 144) (v := 0) d_Ho_hearNumber_144 (by decide) ?_
            replace hs := hu_nb (u := u) (y := ndS (e.2.1, n, e.2.2.2) 2 s.2.1) he hs
            refine zc_V2 (i := i_Ho_hearNumber) (pc := 145) 9 rfl m_Ho_hearWhetherRouter (ztb_of k_680 rfl) (ztb_of k_682 rfl) s_Ho_hearWhetherRouter d_Ho_hearNumber_145 (Nat.le_of_ble_eq_true rfl) (Nat.le_of_ble_eq_true rfl) (Nat.le_of_ble_eq_true rfl) (Nat.le_of_ble_eq_true rfl) (hs.get (t := 0) rfl) (c_Ho_hearWhetherRouter (e := (e.1, ndS (e.2.1, n, e.2.2.2) 2 s.2.1)) (b := false) (hok_set h2) h3 hs (set_at he) fun ro' ws h3' e3 hs => ?_)
            refine zo_return (i := i_Ho_hearNumber) (pc := 148) hq d_Ho_hearNumber_148 rfl (Nat.le_of_ble_eq_true rfl) (Nat.le_of_ble_eq_true rfl) ?_
            have ey : hnX s.2.1 n fl e.2 = ndS (e.2.1, n, e.2.2.2) 2 s.2.1 := by
              unfold hnX
              rw [if_neg hS, if_neg hF]
            have eu : hnU u e.2 = u := if_neg hS
            have eb : (!decide (fl &&& 1 = 0)) = false := by simp [h137]
            rw [ey, eu, eb] at k2
            refine k2 (fun q => hO q.2.2) ro' ws h3' e3 ?_
            exact hs.eq (congrArg (fun l => (hL g A s (u) ow (nb.1, l) ro' pf pa hd R).flatten) (List.set_set ..))
          · refine zo_iconst (i := i_Ho_hearNumber) (pc := 140) (v := 1) d_Ho_hearNumber_140 (by decide) ?_
            refine zo_goto (i := i_Ho_hearNumber) (pc := 141) (tgt := 145) d_Ho_hearNumber_141 (by decide) ?_
            replace hs := hu_nb (u := u) (y := ndS (e.2.1, n, e.2.2.2) 2 s.2.1) he hs
            refine zc_V2 (i := i_Ho_hearNumber) (pc := 145) 9 rfl m_Ho_hearWhetherRouter (ztb_of k_680 rfl) (ztb_of k_682 rfl) s_Ho_hearWhetherRouter d_Ho_hearNumber_145 (Nat.le_of_ble_eq_true rfl) (Nat.le_of_ble_eq_true rfl) (Nat.le_of_ble_eq_true rfl) (Nat.le_of_ble_eq_true rfl) (hs.get (t := 0) rfl) (c_Ho_hearWhetherRouter (e := (e.1, ndS (e.2.1, n, e.2.2.2) 2 s.2.1)) (b := true) (hok_set h2) h3 hs (set_at he) fun ro' ws h3' e3 hs => ?_)
            refine zo_return (i := i_Ho_hearNumber) (pc := 148) hq d_Ho_hearNumber_148 rfl (Nat.le_of_ble_eq_true rfl) (Nat.le_of_ble_eq_true rfl) ?_
            have ey : hnX s.2.1 n fl e.2 = ndS (e.2.1, n, e.2.2.2) 2 s.2.1 := by
              unfold hnX
              rw [if_neg hS, if_neg hF]
            have eu : hnU u e.2 = u := if_neg hS
            have eb : (!decide (fl &&& 1 = 0)) = true := by simp [h137]
            rw [ey, eu, eb] at k2
            refine k2 (fun q => hO q.2.2) ro' ws h3' e3 ?_
            exact hs.eq (congrArg (fun l => (hL g A s (u) ow (nb.1, l) ro' pf pa hd R).flatten) (List.set_set ..))
        · refine zo_aload_n (i := i_Ho_hearNumber) (pc := 78) d_Ho_hearNumber_78 rfl rfl ?_
          refine zo_getN (i := i_Ho_hearNumber) (pc := 79) 2 2 rfl zok_Ne (Nat.le_of_ble_eq_true rfl) (ztb_of k_550 rfl) d_Ho_hearNumber_79 (fun _ _ _ h => h) hse rfl ?_
          refine zo_iconst (i := i_Ho_hearNumber) (pc := 82) (v := 2) d_Ho_hearNumber_82 (by decide) ?_
          refine zo_icmp_ne (i := i_Ho_hearNumber) (pc := 83) (tgt := 95) d_Ho_hearNumber_83 (by decide) (fun h83 => ?_) (fun h83 => ?_)
          · replace hs := hv_nb hs he
            refine zo_return (i := i_Ho_hearNumber) (pc := 95) hq d_Ho_hearNumber_95 rfl (Nat.le_of_ble_eq_true rfl) (Nat.le_of_ble_eq_true rfl) ?_
            refine k1 ⟨hS, hN, hO⟩ ws ?_
            rw [if_neg h83]
            exact hu_nb he hs
          · replace hs := hv_nb hs he
            refine zo_aload_n (i := i_Ho_hearNumber) (pc := 86) d_Ho_hearNumber_86 rfl rfl ?_
            refine zo_iconst (i := i_Ho_hearNumber) (pc := 87) (v := 3) d_Ho_hearNumber_87 (by decide) ?_
            refine zo_aload_n (i := i_Ho_hearNumber) (pc := 88) d_Ho_hearNumber_88 rfl rfl ?_
            refine zo_get (i := i_Ho_hearNumber) (pc := 89) 9 8 rfl zok_Ho (Nat.le_of_ble_eq_true rfl) (ztb_of k_270 rfl) d_Ho_hearNumber_89 (fun _ _ _ h => h) (hs.get (t := 0) rfl) rfl ?_
            refine zc_VN2 (i := i_Ho_hearNumber) (pc := 92) 2 rfl m_Ne_enter (ztb_of k_485 rfl) (ztb_of k_487 rfl) s_Ne_enter d_Ho_hearNumber_92 (Nat.le_of_ble_eq_true rfl) (Nat.le_of_ble_eq_true rfl) (Nat.le_of_ble_eq_true rfl) (Nat.le_of_ble_eq_true rfl) (hs.get (t := 5) rfl) (c_Ne_enter hs.f2 fun ws hs => ?_)
            replace hs := hs.f2'
            
            refine zo_return (i := i_Ho_hearNumber) (pc := 95) hq d_Ho_hearNumber_95 rfl (Nat.le_of_ble_eq_true rfl) (Nat.le_of_ble_eq_true rfl) ?_
            refine k1 ⟨hS, hN, hO⟩ ws ?_
            rw [if_pos h83]
            exact hu_nb he hs
      · replace hs := hv_nb hs he
        refine zo_aload_n (i := i_Ho_hearNumber) (pc := 36) d_Ho_hearNumber_36 rfl rfl ?_
        refine zo_iload_n (i := i_Ho_hearNumber) (pc := 37) d_Ho_hearNumber_37 rfl ?_
        refine zh_putN (i := i_Ho_hearNumber) (pc := 38) 2 1 rfl zok_Ne (Nat.le_of_ble_eq_true rfl) (ztb_of k_548 rfl) rfl d_Ho_hearNumber_38 (fun _ _ _ h => h) (t_Ne_ok 1 (Nat.le_of_ble_eq_true rfl)) rfl rfl hs 5 rfl (Nat.le_of_ble_eq_true rfl) fun ws hs => ?_
        replace hs : zHas ws (hoC A s :: (ouN g A u ++ ((e.1, .inr (2, ndV (e.2.1, n, e.2.2.2))) :: rwX g 3 2 ndV (A 7) (A 8) nb.1.1 nb.1.2 [] nb.2 j (owW g A ow ++ (roW g A ro ++ (pfW g A pf ++ (paW g A pa ++ (heW g A hd ++ (R ++ []))))))))) := hs
        refine zo_aload_n (i := i_Ho_hearNumber) (pc := 41) d_Ho_hearNumber_41 rfl rfl ?_
        refine zo_iload (i := i_Ho_hearNumber) (pc := 42) d_Ho_hearNumber_42 rfl ?_
        refine zo_if_eq (i := i_Ho_hearNumber) (pc := 44) (tgt := 51) d_Ho_hearNumber_44 (by decide) (fun h44 => False.elim (by first | exact absurd h44 (by decide) | exact absurd (by decide) h44)) (fun h44 => ?_)
        refine zo_iconst (i := i_Ho_hearNumber) (pc := 47) (v := 2) d_Ho_hearNumber_47 (by decide) ?_
        refine zo_goto (i := i_Ho_hearNumber) (pc := 48) (tgt := 52) d_Ho_hearNumber_48 (by decide) ?_
        refine zo_aload_n (i := i_Ho_hearNumber) (pc := 52) d_Ho_hearNumber_52 rfl rfl ?_
        refine zo_get (i := i_Ho_hearNumber) (pc := 53) 9 8 rfl zok_Ho (Nat.le_of_ble_eq_true rfl) (ztb_of k_270 rfl) d_Ho_hearNumber_53 (fun _ _ _ h => h) (hs.get (t := 0) rfl) rfl ?_
        refine zc_VN2 (i := i_Ho_hearNumber) (pc := 56) 2 rfl m_Ne_enter (ztb_of k_485 rfl) (ztb_of k_487 rfl) s_Ne_enter d_Ho_hearNumber_56 (Nat.le_of_ble_eq_true rfl) (Nat.le_of_ble_eq_true rfl) (Nat.le_of_ble_eq_true rfl) (Nat.le_of_ble_eq_true rfl) (hs.get (t := 5) rfl) (c_Ne_enter hs.f2 fun ws hs => ?_)
        replace hs := hs.f2'
        refine zo_aload_n (i := i_Ho_hearNumber) (pc := 59) d_Ho_hearNumber_59 rfl rfl ?_
        refine zo_aload_n (i := i_Ho_hearNumber) (pc := 60) d_Ho_hearNumber_60 rfl rfl ?_
        refine zc_V1 (i := i_Ho_hearNumber) (pc := 61) 9 rfl m_Ho_sendWaiting (ztb_of k_576 rfl) (ztb_of k_578 rfl) s_Ho_sendWaiting d_Ho_hearNumber_61 (Nat.le_of_ble_eq_true rfl) (Nat.le_of_ble_eq_true rfl) (Nat.le_of_ble_eq_true rfl) (Nat.le_of_ble_eq_true rfl) (hs.get (t := 0) rfl) (c_Ho_sendWaiting hs fun ws hs => ?_)
        refine zo_goto (i := i_Ho_hearNumber) (pc := 64) (tgt := 132) d_Ho_hearNumber_64 (by decide) ?_
        refine zo_aload_n (i := i_Ho_hearNumber) (pc := 132) d_Ho_hearNumber_132 rfl rfl ?_
        refine zo_aload_n (i := i_Ho_hearNumber) (pc := 133) d_Ho_hearNumber_133 rfl rfl ?_
        refine zo_iload_n (i := i_Ho_hearNumber) (pc := 134) d_Ho_hearNumber_134 rfl ?_
        refine zo_iconst (i := i_Ho_hearNumber) (pc := 135) (v := 1) d_Ho_hearNumber_135 (by decide) ?_
        refine zo_iand (i := i_Ho_hearNumber) (pc := 136) d_Ho_hearNumber_136 ?_
        refine zo_if_eq (i := i_Ho_hearNumber) (pc := 137) (tgt := 144) d_Ho_hearNumber_137 (by decide) (fun h137 => ?_) (fun h137 => ?_)
        · refine zo_iconst (i := i_Ho_hearNumber) (pc := 144) (v := 0) d_Ho_hearNumber_144 (by decide) ?_
          replace hs := hu_nb (u := swU u e.2) (y := swX s.2.1 (e.2.1, n, 2, s.2.1, e.2.2.2.2.2)) he hs
          refine zc_V2 (i := i_Ho_hearNumber) (pc := 145) 9 rfl m_Ho_hearWhetherRouter (ztb_of k_680 rfl) (ztb_of k_682 rfl) s_Ho_hearWhetherRouter d_Ho_hearNumber_145 (Nat.le_of_ble_eq_true rfl) (Nat.le_of_ble_eq_true rfl) (Nat.le_of_ble_eq_true rfl) (Nat.le_of_ble_eq_true rfl) (hs.get (t := 0) rfl) (c_Ho_hearWhetherRouter (e := (e.1, swX s.2.1 (e.2.1, n, 2, s.2.1, e.2.2.2.2.2))) (b := false) (hok_set h2) h3 hs (set_at he) fun ro' ws h3' e3 hs => ?_)
          refine zo_return (i := i_Ho_hearNumber) (pc := 148) hq d_Ho_hearNumber_148 rfl (Nat.le_of_ble_eq_true rfl) (Nat.le_of_ble_eq_true rfl) ?_
          have ey : hnX s.2.1 n fl e.2 = swX s.2.1 (e.2.1, n, 2, s.2.1, e.2.2.2.2.2) := by
            unfold hnX
            rw [if_pos hS, if_neg hF]
          have eu : hnU u e.2 = swU u e.2 := if_pos hS
          have eb : (!decide (fl &&& 1 = 0)) = false := by simp [h137]
          rw [ey, eu, eb] at k2
          refine k2 (fun q => q.1 hS) ro' ws h3' e3 ?_
          exact hs.eq (congrArg (fun l => (hL g A s (swU u e.2) ow (nb.1, l) ro' pf pa hd R).flatten) (List.set_set ..))
        · refine zo_iconst (i := i_Ho_hearNumber) (pc := 140) (v := 1) d_Ho_hearNumber_140 (by decide) ?_
          refine zo_goto (i := i_Ho_hearNumber) (pc := 141) (tgt := 145) d_Ho_hearNumber_141 (by decide) ?_
          replace hs := hu_nb (u := swU u e.2) (y := swX s.2.1 (e.2.1, n, 2, s.2.1, e.2.2.2.2.2)) he hs
          refine zc_V2 (i := i_Ho_hearNumber) (pc := 145) 9 rfl m_Ho_hearWhetherRouter (ztb_of k_680 rfl) (ztb_of k_682 rfl) s_Ho_hearWhetherRouter d_Ho_hearNumber_145 (Nat.le_of_ble_eq_true rfl) (Nat.le_of_ble_eq_true rfl) (Nat.le_of_ble_eq_true rfl) (Nat.le_of_ble_eq_true rfl) (hs.get (t := 0) rfl) (c_Ho_hearWhetherRouter (e := (e.1, swX s.2.1 (e.2.1, n, 2, s.2.1, e.2.2.2.2.2))) (b := true) (hok_set h2) h3 hs (set_at he) fun ro' ws h3' e3 hs => ?_)
          refine zo_return (i := i_Ho_hearNumber) (pc := 148) hq d_Ho_hearNumber_148 rfl (Nat.le_of_ble_eq_true rfl) (Nat.le_of_ble_eq_true rfl) ?_
          have ey : hnX s.2.1 n fl e.2 = swX s.2.1 (e.2.1, n, 2, s.2.1, e.2.2.2.2.2) := by
            unfold hnX
            rw [if_pos hS, if_neg hF]
          have eu : hnU u e.2 = swU u e.2 := if_pos hS
          have eb : (!decide (fl &&& 1 = 0)) = true := by simp [h137]
          rw [ey, eu, eb] at k2
          refine k2 (fun q => q.1 hS) ro' ws h3' e3 ?_
          exact hs.eq (congrArg (fun l => (hL g A s (swU u e.2) ow (nb.1, l) ro' pf pa hd R).flatten) (List.set_set ..))
