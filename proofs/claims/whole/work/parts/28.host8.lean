/-! The host: more of its public methods, where they do not refuse (walks by a program, gen28.py). -/
section ZHost9
theorem lnT_ex (q : hT) (a n : Int32) : ∃ U L, lnT q a n = (q.1, U, q.2.2.1, L, q.2.2.2.2) := by
  unfold lnT
  cases q.2.2.2.1.find? (fun e => decide (e.1 = a)) with
  | none => exact ⟨_, _, rfl⟩
  | some x =>
    by_cases h : x.2.2.1 = 1 ∨ ¬ x.2.1 = n
    · exact ⟨swU q.2.1 x, zset1 (fun e => decide (e.1 = a)) (lnX q.1.2.1 n) q.2.2.2.1, if_pos h⟩
    · exact ⟨q.2.1, q.2.2.2.1, if_neg h⟩
theorem zb_t {b : Bool} (h : b = true) : ¬ zb b = 0 := by rw [h]; decide
theorem any_snd {α : Type} (p : α → Bool) (l : List (Nat × α)) : (l.map Prod.snd).any p = l.any (fun e => p e.2) := by rw [List.any_map]; rfl
end ZHost9
theorem c_Ho_router {g : zG} {ws : va_W} {post : Option Value → va_W → Prop} {A : Nat → Nat} {q : hT} {R : va_W} (h : hH g A q R ws) {a n l z : Int32} (ha : zwithin a 1 254 = true) (hn : zwithin n 1 99 = true) (hl : zwithin l 0 1000 = true) (hz : zwithin z 0 99 = true) (hu : q.1.2.2.2.2.2.2 = false) (k : ∀ w, hH g A (routerT q a n l z) R w → post none w) : zC g i_Ho_router [.ref (A 0), .int a, .int n, .int l, .int z] ws post := by
  refine zC.intro (by decide +kernel) rfl (Nat.le_of_ble_eq_true rfl) fun x0 hq => ?_
  have h0 := h
  obtain ⟨s, u, lo, ln, lr, lp, la, hd⟩ := q
  obtain ⟨ow0, nb, ro0, pf0, pa0, h1, h2, h3, h4, h5, rfl, rfl, rfl, rfl, rfl, h6, hs⟩ := h
  replace hs : zHas ws (hL g A s u ow0 nb ro0 pf0 pa0 hd R).flatten := hs
  have hu : s.2.2.2.2.2.2 = false := hu
  refine zo_iload_n (i := i_Ho_router) (pc := 0) d_Ho_router_0 rfl ?_
  refine zo_iconst (i := i_Ho_router) (pc := 1) (v := 1) d_Ho_router_1 (by decide) ?_
  refine zo_sipush (i := i_Ho_router) (pc := 2) (v := 254) d_Ho_router_2 (by decide) ?_
  refine zc_S3 (i := i_Ho_router) (pc := 5) m_Ho_isWithin (ztb_of k_359 rfl) (ztb_of k_360 rfl) d_Ho_router_5 (Nat.le_of_ble_eq_true rfl) (Nat.le_of_ble_eq_true rfl) (Nat.le_of_ble_eq_true rfl) (Nat.le_of_ble_eq_true rfl) (c_Ho_isWithin ?_)
  refine zo_if_eq (i := i_Ho_router) (pc := 8) (tgt := 40) d_Ho_router_8 (by decide) (fun h8 => False.elim (by first | exact absurd h8 ((zb_t ha)) | exact absurd ((zb_t ha)) h8)) (fun h8 => ?_)
  refine zo_iload_n (i := i_Ho_router) (pc := 11) d_Ho_router_11 rfl ?_
  refine zc_S1 (i := i_Ho_router) (pc := 12) m_Ho_isNumber (ztb_of k_509 rfl) (ztb_of k_510 rfl) d_Ho_router_12 (Nat.le_of_ble_eq_true rfl) (Nat.le_of_ble_eq_true rfl) (Nat.le_of_ble_eq_true rfl) (Nat.le_of_ble_eq_true rfl) (c_Ho_isNumber ?_)
  refine zo_if_eq (i := i_Ho_router) (pc := 15) (tgt := 40) d_Ho_router_15 (by decide) (fun h15 => False.elim (by first | exact absurd h15 ((zb_t hn)) | exact absurd ((zb_t hn)) h15)) (fun h15 => ?_)
  refine zo_iload_n (i := i_Ho_router) (pc := 18) d_Ho_router_18 rfl ?_
  refine zc_S1 (i := i_Ho_router) (pc := 19) m_Ho_isLife (ztb_of k_512 rfl) (ztb_of k_513 rfl) d_Ho_router_19 (Nat.le_of_ble_eq_true rfl) (Nat.le_of_ble_eq_true rfl) (Nat.le_of_ble_eq_true rfl) (Nat.le_of_ble_eq_true rfl) (c_Ho_isLife ?_)
  refine zo_if_eq (i := i_Ho_router) (pc := 22) (tgt := 40) d_Ho_router_22 (by decide) (fun h22 => False.elim (by first | exact absurd h22 ((zb_t hl)) | exact absurd ((zb_t hl)) h22)) (fun h22 => ?_)
  refine zo_iload (i := i_Ho_router) (pc := 25) d_Ho_router_25 rfl ?_
  refine zo_iconst (i := i_Ho_router) (pc := 27) (v := 0) d_Ho_router_27 (by decide) ?_
  refine zo_bipush (i := i_Ho_router) (pc := 28) (v := 99) d_Ho_router_28 (by decide) ?_
  refine zc_S3 (i := i_Ho_router) (pc := 30) m_Ho_isWithin (ztb_of k_359 rfl) (ztb_of k_360 rfl) d_Ho_router_30 (Nat.le_of_ble_eq_true rfl) (Nat.le_of_ble_eq_true rfl) (Nat.le_of_ble_eq_true rfl) (Nat.le_of_ble_eq_true rfl) (c_Ho_isWithin ?_)
  refine zo_if_eq (i := i_Ho_router) (pc := 33) (tgt := 40) d_Ho_router_33 (by decide) (fun h33 => False.elim (by first | exact absurd h33 ((zb_t hz)) | exact absurd ((zb_t hz)) h33)) (fun h33 => ?_)
  refine zo_iconst (i := i_Ho_router) (pc := 36) (v := 1) d_Ho_router_36 (by decide) ?_
  refine zo_goto (i := i_Ho_router) (pc := 37) (tgt := 41) d_Ho_router_37 (by decide) ?_
  refine zc_S1 (i := i_Ho_router) (pc := 41) m_Ho_requireArguments (ztb_of k_362 rfl) (ztb_of k_363 rfl) d_Ho_router_41 (Nat.le_of_ble_eq_true rfl) (Nat.le_of_ble_eq_true rfl) (Nat.le_of_ble_eq_true rfl) (Nat.le_of_ble_eq_true rfl) (c_Ho_requireArguments (by decide) ?_)
  refine zo_aload_n (i := i_Ho_router) (pc := 44) d_Ho_router_44 rfl rfl ?_
  refine zc_V0 (i := i_Ho_router) (pc := 45) 9 rfl m_Ho_requireUp (ztb_of k_515 rfl) (ztb_of k_517 rfl) s_Ho_requireUp d_Ho_router_45 (Nat.le_of_ble_eq_true rfl) (Nat.le_of_ble_eq_true rfl) (Nat.le_of_ble_eq_true rfl) (Nat.le_of_ble_eq_true rfl) (hs.get (t := 0) rfl) (c_Ho_requireUp (A := A) (s := s) (hs.get (t := 0) rfl) hu ?_)
  refine zo_iconst (i := i_Ho_router) (pc := 48) (v := 1) d_Ho_router_48 (by decide) ?_
  refine zo_iload_n (i := i_Ho_router) (pc := 49) d_Ho_router_49 rfl ?_
  refine zc_S2 (i := i_Ho_router) (pc := 50) m_Ho_addressOf (ztb_of k_160 rfl) (ztb_of k_161 rfl) d_Ho_router_50 (Nat.le_of_ble_eq_true rfl) (Nat.le_of_ble_eq_true rfl) (Nat.le_of_ble_eq_true rfl) (Nat.le_of_ble_eq_true rfl) (c_Ho_addressOf ?_)
  refine zo_istore (i := i_Ho_router) (pc := 53) d_Ho_router_53 (Nat.le_of_ble_eq_true rfl) ?_
  refine zo_aload_n (i := i_Ho_router) (pc := 55) d_Ho_router_55 rfl rfl ?_
  refine zo_iload (i := i_Ho_router) (pc := 56) d_Ho_router_56 rfl ?_
  refine zo_iload_n (i := i_Ho_router) (pc := 58) d_Ho_router_58 rfl ?_
  refine zc_V2 (i := i_Ho_router) (pc := 59) 9 rfl m_Ho_learnNumber (ztb_of k_535 rfl) (ztb_of k_537 rfl) s_Ho_learnNumber d_Ho_router_59 (Nat.le_of_ble_eq_true rfl) (Nat.le_of_ble_eq_true rfl) (Nat.le_of_ble_eq_true rfl) (Nat.le_of_ble_eq_true rfl) (hs.get (t := 0) rfl) (c_Ho_learnNumber h0 fun ow nb' ro pf pa b j x ws h1 h2 h3 h4 h5 e1 e2 e3 e4 e5 hj hx hno hs => ?_)
  obtain ⟨U1, L1, eL⟩ := lnT_ex (s, u, ow0.2.map Prod.snd, nb.2.map Prod.snd, ro0.2.map Prod.snd, pf0.2.map Prod.snd, pa0.2.map Prod.snd, hd) (256 * 1 + a) n
  rw [eL] at e2 hs
  replace e2 : nb'.2.map Prod.snd = L1 := e2
  replace hs : zHas ws (hL g A s U1 ow nb' ro pf pa hd R).flatten := hs
  refine zo_iconst (i := i_Ho_router) (pc := 62) (v := 1) d_Ho_router_62 (by decide) ?_
  replace hs := hv_nb hs hj
  refine zh_putN (i := i_Ho_router) (pc := 63) 2 4 rfl zok_Ne (Nat.le_of_ble_eq_true rfl) (ztb_of k_555 rfl) rfl d_Ho_router_63 (fun _ _ _ h => h) (t_Ne_ok 4 (Nat.le_of_ble_eq_true rfl)) rfl rfl hs 5 rfl (Nat.le_of_ble_eq_true rfl) fun ws hs => ?_
  replace hs := hu_nb (y := ndR x true) hj hs
  refine zo_iload_n (i := i_Ho_router) (pc := 66) d_Ho_router_66 rfl ?_
  refine zo_if_ne (i := i_Ho_router) (pc := 67) (tgt := 82) d_Ho_router_67 (by decide) (fun h67 => ?_) (fun h67 => ?_)
  · refine zo_aload_n (i := i_Ho_router) (pc := 82) d_Ho_router_82 rfl rfl ?_
    refine zo_get (i := i_Ho_router) (pc := 83) 9 4 rfl zok_Ho (Nat.le_of_ble_eq_true rfl) (ztb_of k_266 rfl) d_Ho_router_83 (fun _ _ _ h => h) (hs.get (t := 0) rfl) rfl ?_
    refine zo_iload (i := i_Ho_router) (pc := 86) d_Ho_router_86 rfl ?_
    refine zo_aload_n (i := i_Ho_router) (pc := 88) d_Ho_router_88 rfl rfl ?_
    refine zo_iload_n (i := i_Ho_router) (pc := 89) d_Ho_router_89 rfl ?_
    refine zc_V1 (i := i_Ho_router) (pc := 90) 9 rfl m_Ho_endOf (ztb_of k_588 rfl) (ztb_of k_590 rfl) s_Ho_endOf d_Ho_router_90 (Nat.le_of_ble_eq_true rfl) (Nat.le_of_ble_eq_true rfl) (Nat.le_of_ble_eq_true rfl) (Nat.le_of_ble_eq_true rfl) (hs.get (t := 0) rfl) (c_Ho_endOf (A := A) (s := s) (hs.get (t := 0) rfl) ?_)
    refine zo_iconst (i := i_Ho_router) (pc := 93) (v := 0) d_Ho_router_93 (by decide) ?_
    refine zc_VN3 (i := i_Ho_router) (pc := 94) 8 rfl m_Tr_keep (ztb_of k_592 rfl) (ztb_of k_594 rfl) s_Tr_keep d_Ho_router_94 (Nat.le_of_ble_eq_true rfl) (Nat.le_of_ble_eq_true rfl) (Nat.le_of_ble_eq_true rfl) (Nat.le_of_ble_eq_true rfl) ((hs.pick 4 rfl).get (t := 0) rfl) (c_tr_keep (n := 3) (hs.pick 4 rfl) h3 rfl (by decide) (by decide) fun y' ws h3' e3' hs => ?_)
    replace hs : zHas ws (hL g A s U1 ow (nb'.1, nb'.2.set j (b, ndR x true)) y' pf pa hd R).flatten := zHas.back (cs := hL g A s U1 ow (nb'.1, nb'.2.set j (b, ndR x true)) ro pf pa hd R) 4 rfl hs
    refine zo_iload (i := i_Ho_router) (pc := 97) d_Ho_router_97 rfl ?_
    refine zo_bipush (i := i_Ho_router) (pc := 99) (v := 8) d_Ho_router_99 (by decide) ?_
    refine zo_bipush (i := i_Ho_router) (pc := 101) (v := 40) d_Ho_router_101 (by decide) ?_
    refine zc_S3 (i := i_Ho_router) (pc := 103) m_Ho_isWithin (ztb_of k_359 rfl) (ztb_of k_360 rfl) d_Ho_router_103 (Nat.le_of_ble_eq_true rfl) (Nat.le_of_ble_eq_true rfl) (Nat.le_of_ble_eq_true rfl) (Nat.le_of_ble_eq_true rfl) (c_Ho_isWithin ?_)
    refine zo_if_eq (i := i_Ho_router) (pc := 106) (tgt := 115) d_Ho_router_106 (by decide) (fun h106 => ?_) (fun h106 => ?_)
    · refine zo_return (i := i_Ho_router) (pc := 115) hq d_Ho_router_115 rfl (Nat.le_of_ble_eq_true rfl) (Nat.le_of_ble_eq_true rfl) ?_
      have er : routerT (s, u, ow0.2.map Prod.snd, nb.2.map Prod.snd, ro0.2.map Prod.snd, pf0.2.map Prod.snd, pa0.2.map Prod.snd, hd) a n l z = (s, U1, ow0.2.map Prod.snd, zset1 (fun e => decide (e.1 = 256 * 1 + a)) (fun x => ndR x true) L1, tkeep 3 (256 * 1 + a, zend s.2.1 l, 0) (ro0.2.map Prod.snd), pf0.2.map Prod.snd, pa0.2.map Prod.snd, hd) := by
        unfold routerT
        rw [eL]
        simp only [h67, if_true, if_false, zb_0.mp h106, Bool.false_eq_true, if_false]
        rfl
      rw [er] at k
      exact k ws ⟨_, _, _, _, _, h1, (hok_set h2), h3', h4, h5, e1, (by show _ = zset1 _ _ L1; rw [← e2]; exact set_snd (p := fun e => decide (e.1 = 256 * 1 + a)) (f := fun x => ndR x true) hno hj (decide_eq_true hx)), (by rw [e3', e3]), e4, e5, h6, hs⟩
    · refine zo_aload_n (i := i_Ho_router) (pc := 109) d_Ho_router_109 rfl rfl ?_
      refine zo_iload (i := i_Ho_router) (pc := 110) d_Ho_router_110 rfl ?_
      refine zh_put (i := i_Ho_router) (pc := 112) 9 9 rfl zok_Ho (Nat.le_of_ble_eq_true rfl) (ztb_of k_271 rfl) rfl d_Ho_router_112 (fun _ _ _ h => h) (t_Ho_ok 9 (Nat.le_of_ble_eq_true rfl)) rfl rfl hs 0 rfl (Nat.le_of_ble_eq_true rfl) fun ws hs => ?_
      replace hs : zHas ws (hL g A (lsS s z) U1 ow (nb'.1, nb'.2.set j (b, ndR x true)) y' pf pa hd R).flatten := hs
      refine zo_return (i := i_Ho_router) (pc := 115) hq d_Ho_router_115 rfl (Nat.le_of_ble_eq_true rfl) (Nat.le_of_ble_eq_true rfl) ?_
      rw [zb_0, Bool.not_eq_false] at h106
      have er : routerT (s, u, ow0.2.map Prod.snd, nb.2.map Prod.snd, ro0.2.map Prod.snd, pf0.2.map Prod.snd, pa0.2.map Prod.snd, hd) a n l z = (lsS s z, U1, ow0.2.map Prod.snd, zset1 (fun e => decide (e.1 = 256 * 1 + a)) (fun x => ndR x true) L1, tkeep 3 (256 * 1 + a, zend s.2.1 l, 0) (ro0.2.map Prod.snd), pf0.2.map Prod.snd, pa0.2.map Prod.snd, hd) := by
        unfold routerT
        rw [eL]
        simp only [h67, if_true, if_false, h106, if_true]
        rfl
      rw [er] at k
      exact k ws ⟨_, _, _, _, _, h1, (hok_set h2), h3', h4, h5, e1, (by show _ = zset1 _ _ L1; rw [← e2]; exact set_snd (p := fun e => decide (e.1 = 256 * 1 + a)) (f := fun x => ndR x true) hno hj (decide_eq_true hx)), (by rw [e3', e3]), e4, e5, h6, hs⟩
  · refine zo_aload_n (i := i_Ho_router) (pc := 70) d_Ho_router_70 rfl rfl ?_
    refine zo_get (i := i_Ho_router) (pc := 71) 9 4 rfl zok_Ho (Nat.le_of_ble_eq_true rfl) (ztb_of k_266 rfl) d_Ho_router_71 (fun _ _ _ h => h) (hs.get (t := 0) rfl) rfl ?_
    refine zo_iload (i := i_Ho_router) (pc := 74) d_Ho_router_74 rfl ?_
    refine zc_VN1 (i := i_Ho_router) (pc := 76) 8 rfl m_Tr_drop (ztb_of k_584 rfl) (ztb_of k_586 rfl) s_Tr_drop d_Ho_router_76 (Nat.le_of_ble_eq_true rfl) (Nat.le_of_ble_eq_true rfl) (Nat.le_of_ble_eq_true rfl) (Nat.le_of_ble_eq_true rfl) ((hs.pick 4 rfl).get (t := 0) rfl) (c_tr_drop (hs.pick 4 rfl) h3 (by decide) fun y' ws h3' e3' hs => ?_)
    replace hs : zHas ws (hL g A s U1 ow (nb'.1, nb'.2.set j (b, ndR x true)) y' pf pa hd R).flatten := zHas.back (cs := hL g A s U1 ow (nb'.1, nb'.2.set j (b, ndR x true)) ro pf pa hd R) 4 rfl hs
    refine zo_goto (i := i_Ho_router) (pc := 79) (tgt := 97) d_Ho_router_79 (by decide) ?_
    refine zo_iload (i := i_Ho_router) (pc := 97) d_Ho_router_97 rfl ?_
    refine zo_bipush (i := i_Ho_router) (pc := 99) (v := 8) d_Ho_router_99 (by decide) ?_
    refine zo_bipush (i := i_Ho_router) (pc := 101) (v := 40) d_Ho_router_101 (by decide) ?_
    refine zc_S3 (i := i_Ho_router) (pc := 103) m_Ho_isWithin (ztb_of k_359 rfl) (ztb_of k_360 rfl) d_Ho_router_103 (Nat.le_of_ble_eq_true rfl) (Nat.le_of_ble_eq_true rfl) (Nat.le_of_ble_eq_true rfl) (Nat.le_of_ble_eq_true rfl) (c_Ho_isWithin ?_)
    refine zo_if_eq (i := i_Ho_router) (pc := 106) (tgt := 115) d_Ho_router_106 (by decide) (fun h106 => ?_) (fun h106 => ?_)
    · refine zo_return (i := i_Ho_router) (pc := 115) hq d_Ho_router_115 rfl (Nat.le_of_ble_eq_true rfl) (Nat.le_of_ble_eq_true rfl) ?_
      have er : routerT (s, u, ow0.2.map Prod.snd, nb.2.map Prod.snd, ro0.2.map Prod.snd, pf0.2.map Prod.snd, pa0.2.map Prod.snd, hd) a n l z = (s, U1, ow0.2.map Prod.snd, zset1 (fun e => decide (e.1 = 256 * 1 + a)) (fun x => ndR x true) L1, (ro0.2.map Prod.snd).filter (fun e => !decide (e.1 = 256 * 1 + a)), pf0.2.map Prod.snd, pa0.2.map Prod.snd, hd) := by
        unfold routerT
        rw [eL]
        simp only [h67, if_true, if_false, zb_0.mp h106, Bool.false_eq_true, if_false]
        rfl
      rw [er] at k
      exact k ws ⟨_, _, _, _, _, h1, (hok_set h2), h3', h4, h5, e1, (by show _ = zset1 _ _ L1; rw [← e2]; exact set_snd (p := fun e => decide (e.1 = 256 * 1 + a)) (f := fun x => ndR x true) hno hj (decide_eq_true hx)), (by rw [e3', e3]), e4, e5, h6, hs⟩
    · refine zo_aload_n (i := i_Ho_router) (pc := 109) d_Ho_router_109 rfl rfl ?_
      refine zo_iload (i := i_Ho_router) (pc := 110) d_Ho_router_110 rfl ?_
      refine zh_put (i := i_Ho_router) (pc := 112) 9 9 rfl zok_Ho (Nat.le_of_ble_eq_true rfl) (ztb_of k_271 rfl) rfl d_Ho_router_112 (fun _ _ _ h => h) (t_Ho_ok 9 (Nat.le_of_ble_eq_true rfl)) rfl rfl hs 0 rfl (Nat.le_of_ble_eq_true rfl) fun ws hs => ?_
      replace hs : zHas ws (hL g A (lsS s z) U1 ow (nb'.1, nb'.2.set j (b, ndR x true)) y' pf pa hd R).flatten := hs
      refine zo_return (i := i_Ho_router) (pc := 115) hq d_Ho_router_115 rfl (Nat.le_of_ble_eq_true rfl) (Nat.le_of_ble_eq_true rfl) ?_
      rw [zb_0, Bool.not_eq_false] at h106
      have er : routerT (s, u, ow0.2.map Prod.snd, nb.2.map Prod.snd, ro0.2.map Prod.snd, pf0.2.map Prod.snd, pa0.2.map Prod.snd, hd) a n l z = (lsS s z, U1, ow0.2.map Prod.snd, zset1 (fun e => decide (e.1 = 256 * 1 + a)) (fun x => ndR x true) L1, (ro0.2.map Prod.snd).filter (fun e => !decide (e.1 = 256 * 1 + a)), pf0.2.map Prod.snd, pa0.2.map Prod.snd, hd) := by
        unfold routerT
        rw [eL]
        simp only [h67, if_true, if_false, h106, if_true]
        rfl
      rw [er] at k
      exact k ws ⟨_, _, _, _, _, h1, (hok_set h2), h3', h4, h5, e1, (by show _ = zset1 _ _ L1; rw [← e2]; exact set_snd (p := fun e => decide (e.1 = 256 * 1 + a)) (f := fun x => ndR x true) hno hj (decide_eq_true hx)), (by rw [e3', e3]), e4, e5, h6, hs⟩
