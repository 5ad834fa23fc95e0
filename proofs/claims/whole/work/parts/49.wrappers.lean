/-! The law's wrappers of the host's methods (walks by a program, gen49.py). -/
theorem hH.at {g : zG} {A : Nat → Nat} {q : hT} {R ws : va_W} (h : hH g A q R ws) : zget ws (A 0) = some (hoC A q.1).2 := by
  obtain ⟨ow, nb, ro, pf, pa, h1, h2, h3, h4, h5, e1, e2, e3, e4, e5, h6, hs⟩ := h
  exact hs.get (t := 0) rfl
theorem nI_ex {j : Int32} (h : ¬ j < 0) : ∃ c : Nat, j = nI c ∧ c < 2147483648 ∧ (c : Int) = j.toInt := by
  have h0 : 0 ≤ j.toInt := by
    have := mt Int32.lt_iff_toInt_lt.mpr h
    simpa using this
  have h1 : j.toInt < 2147483648 := Int32.toInt_lt j
  refine ⟨j.toInt.toNat, ?_, by omega, by omega⟩
  apply Int32.toInt_inj.mp
  rw [nI_toInt (by omega)]
  omega
theorem zwithin_nI {n : Int32} {a b : Nat} (ha : a < 2147483648) (hb : b < 2147483648) (h : zwithin n (nI a) (nI b) = true) : ∃ c : Nat, n = nI c ∧ a ≤ c ∧ c ≤ b := by
  simp only [zwithin, Bool.and_eq_true, Bool.not_eq_true', decide_eq_false_iff_not, Int32.lt_iff_toInt_lt] at h
  rw [nI_toInt (by omega), nI_toInt (by omega)] at h
  obtain ⟨c, e, h1, h2⟩ := nI_ex (j := n) (by rw [Int32.lt_iff_toInt_lt, Int32.toInt_zero]; omega)
  exact ⟨c, e, by omega, by omega⟩
theorem nI_ltN {c n : Nat} (hc : c < 2147483648) (hn : n < 2147483648) (h : nI c < nI n) : c < n := by
  rw [Int32.lt_iff_toInt_lt, nI_toInt (by omega), nI_toInt (by omega)] at h
  omega
theorem hH.len {g : zG} {A : Nat → Nat} {q : hT} {R ws : va_W} (h : hH g A q R ws) : q.2.2.1.length ≤ 5 := by
  obtain ⟨ow, nb, ro, pf, pa, h1, h2, h3, h4, h5, e1, e2, e3, e4, e5, h6, hs⟩ := h
  rw [← e1, List.length_map]
  exact h1.2
theorem hH.ans {g : zG} {A : Nat → Nat} {q : hT} {R ws : va_W} {lo : Nat} {e : va_E} (h : hH g A q ((lo, e) :: R) ws) : zget ws lo = some e := by
  obtain ⟨ow, nb, ro, pf, pa, h1, h2, h3, h4, h5, e1, e2, e3, e4, e5, h6, hs⟩ := h
  exact (hs.pick 8 rfl).get (t := 0) rfl
theorem hH.setA {g : zG} {A : Nat → Nat} {q : hT} {R ws : va_W} {lo : Nat} {e : va_E} (h : hH g A q ((lo, e) :: R) ws) (e' : va_E) : hH g A q ((lo, e') :: R) (zset ws lo e') := by
  obtain ⟨ow, nb, ro, pf, pa, h1, h2, h3, h4, h5, e1, e2, e3, e4, e5, h6, hs⟩ := h
  refine ⟨ow, nb, ro, pf, pa, h1, h2, h3, h4, h5, e1, e2, e3, e4, e5, h6, ?_⟩
  exact zHas.back (cs := hL g A q.1 q.2.1 ow nb ro pf pa q.2.2.2.2.2.2.2 ((lo, e) :: R)) 8 rfl ((hs.pick 8 rfl).put (t := 0) rfl)
abbrev i_La_router : zY := (y_La_router, b_La_router, 6, (some .int), 10, 6, 41)
theorem m_La_router : zMW i_La_router [(0, 9, 12, 13), (0, 9, 16, 19)] 5 := ⟨(ztb_of k_503 rfl), ztb_of k_0 rfl, ⟨by decide, by decide⟩, by decide +kernel, by decide⟩
theorem c_La_router {g : zG} {ws : va_W} {post : Option Value → va_W → Prop} (hnt : g.1.stackTraces = false) {A : Nat → Nat} {q : hT} {R : va_W} (h : hH g A q R ws) {a n l z : Int32} (k0 : (zwithin a 1 254 = true ∧ zwithin n 1 99 = true ∧ zwithin l 0 1000 = true ∧ zwithin z 0 99 = true) → q.1.2.2.2.2.2.2 = false → ∀ w, hH g A (routerT q a n l z) R w → post (some (.int 0)) w) (k1 : ¬ (zwithin a 1 254 = true ∧ zwithin n 1 99 = true ∧ zwithin l 0 1000 = true ∧ zwithin z 0 99 = true) → post (some (.int 1)) ws) (k2 : (zwithin a 1 254 = true ∧ zwithin n 1 99 = true ∧ zwithin l 0 1000 = true ∧ zwithin z 0 99 = true) → q.1.2.2.2.2.2.2 = true → post (some (.int 2)) ws) : zCW g i_La_router [(0, 9, 12, 13), (0, 9, 16, 19)] [.ref (A 0), .int a, .int n, .int l, .int z] ws post := by
  refine zCW.intro (by decide +kernel) rfl (Nat.le_of_ble_eq_true rfl) fun x0 hq ht => ?_
  refine zo_aload_n (i := i_La_router) (pc := 0) d_La_router_0 rfl rfl ?_
  refine zo_iload_n (i := i_La_router) (pc := 1) d_La_router_1 rfl ?_
  refine zo_iload_n (i := i_La_router) (pc := 2) d_La_router_2 rfl ?_
  refine zo_iload_n (i := i_La_router) (pc := 3) d_La_router_3 rfl ?_
  refine zo_iload (i := i_La_router) (pc := 4) d_La_router_4 rfl ?_
  by_cases hv : zwithin a 1 254 = true ∧ zwithin n 1 99 = true ∧ zwithin l 0 1000 = true ∧ zwithin z 0 99 = true
  · by_cases hu : q.1.2.2.2.2.2.2 = true
    · refine zw_throwV (i := i_La_router) (pc := 6) (hp := 16) (st := []) (av := [.int a, .int n, .int l, .int z]) 9 rfl (zHp2 (r := []) ht (by decide) (by decide) (by decide) (by decide) (by decide) (by decide) (ztb_of k_354 rfl) (ztb_of k_504 rfl) (ztb_of k_521 rfl)) m_Ho_router (ztb_of k_505 rfl) (ztb_of k_506 rfl) (ztb_of k_507 rfl) d_La_router_6 rfl h.at (Nat.le_of_ble_eq_true rfl) (Nat.le_of_ble_eq_true rfl) (Nat.le_of_ble_eq_true rfl) (Nat.le_of_ble_eq_true rfl) rfl (t_Ho_router_down hnt h hv.1 hv.2.1 hv.2.2.1 hv.2.2.2 hu) fun b => ?_
      refine zo_astore (i := i_La_router) (pc := 16) d_La_router_16 rfl (Nat.le_of_ble_eq_true rfl) ?_
      refine zo_iconst (i := i_La_router) (pc := 18) (v := 2) d_La_router_18 (by decide) ?_
      refine zo_ireturn (i := i_La_router) (pc := 19) hq d_La_router_19 rfl (Nat.le_of_ble_eq_true rfl) (Nat.le_of_ble_eq_true rfl) ?_
      exact k2 hv hu
    · have hu : q.1.2.2.2.2.2.2 = false := by cases hz : q.1.2.2.2.2.2.2 with
        | false => rfl
        | true => exact absurd hz hu
      refine zc_V4 (i := i_La_router) (pc := 6) 9 rfl m_Ho_router (ztb_of k_505 rfl) (ztb_of k_506 rfl) (ztb_of k_507 rfl) d_La_router_6 (Nat.le_of_ble_eq_true rfl) (Nat.le_of_ble_eq_true rfl) (Nat.le_of_ble_eq_true rfl) (Nat.le_of_ble_eq_true rfl) h.at (c_Ho_router h hv.1 hv.2.1 hv.2.2.1 hv.2.2.2 hu fun w hw => ?_)
      refine zo_goto (i := i_La_router) (pc := 9) (tgt := 20) d_La_router_9 (by decide) ?_
      refine zo_iconst (i := i_La_router) (pc := 20) (v := 0) d_La_router_20 (by decide) ?_
      refine zo_ireturn (i := i_La_router) (pc := 21) hq d_La_router_21 rfl (Nat.le_of_ble_eq_true rfl) (Nat.le_of_ble_eq_true rfl) ?_
      exact k0 hv hu _ hw
  · refine zw_throwV (i := i_La_router) (pc := 6) (hp := 12) (st := []) (av := [.int a, .int n, .int l, .int z]) 9 rfl (zHp1 (r := [(0, 9, 16, 19)]) ht (by decide) (by decide) (by decide) (ztb_of k_354 rfl) (ztb_of k_367 rfl)) m_Ho_router (ztb_of k_505 rfl) (ztb_of k_506 rfl) (ztb_of k_507 rfl) d_La_router_6 rfl h.at (Nat.le_of_ble_eq_true rfl) (Nat.le_of_ble_eq_true rfl) (Nat.le_of_ble_eq_true rfl) (Nat.le_of_ble_eq_true rfl) rfl (t_Ho_router_args hnt hv) fun b => ?_
    refine zo_astore (i := i_La_router) (pc := 12) d_La_router_12 rfl (Nat.le_of_ble_eq_true rfl) ?_
    refine zo_iconst (i := i_La_router) (pc := 14) (v := 1) d_La_router_14 (by decide) ?_
    refine zo_ireturn (i := i_La_router) (pc := 15) hq d_La_router_15 rfl (Nat.le_of_ble_eq_true rfl) (Nat.le_of_ble_eq_true rfl) ?_
    exact k1 hv
abbrev i_La_prefix : zY := (y_La_prefix, b_La_prefix, 6, (some .int), 10, 6, 40)
theorem m_La_prefix : zMW i_La_prefix [(0, 9, 12, 13), (0, 9, 16, 19)] 5 := ⟨(ztb_of k_624 rfl), ztb_of k_0 rfl, ⟨by decide, by decide⟩, by decide +kernel, by decide⟩
theorem c_La_prefix {g : zG} {ws : va_W} {post : Option Value → va_W → Prop} (hnt : g.1.stackTraces = false) {A : Nat → Nat} {q : hT} {R : va_W} (h : hH g A q R ws) {p f v r : Int32} (k0 : (zwithin p 1 250 = true ∧ zwithin f 0 3 = true ∧ zwithin v 0 1000 = true ∧ zwithin r 0 1000 = true) → q.1.2.2.2.2.2.2 = false → ∀ w, hH g A (prefixT q p f v r) R w → post (some (.int 0)) w) (k1 : ¬ (zwithin p 1 250 = true ∧ zwithin f 0 3 = true ∧ zwithin v 0 1000 = true ∧ zwithin r 0 1000 = true) → post (some (.int 1)) ws) (k2 : (zwithin p 1 250 = true ∧ zwithin f 0 3 = true ∧ zwithin v 0 1000 = true ∧ zwithin r 0 1000 = true) → q.1.2.2.2.2.2.2 = true → post (some (.int 2)) ws) : zCW g i_La_prefix [(0, 9, 12, 13), (0, 9, 16, 19)] [.ref (A 0), .int p, .int f, .int v, .int r] ws post := by
  refine zCW.intro (by decide +kernel) rfl (Nat.le_of_ble_eq_true rfl) fun x0 hq ht => ?_
  refine zo_aload_n (i := i_La_prefix) (pc := 0) d_La_prefix_0 rfl rfl ?_
  refine zo_iload_n (i := i_La_prefix) (pc := 1) d_La_prefix_1 rfl ?_
  refine zo_iload_n (i := i_La_prefix) (pc := 2) d_La_prefix_2 rfl ?_
  refine zo_iload_n (i := i_La_prefix) (pc := 3) d_La_prefix_3 rfl ?_
  refine zo_iload (i := i_La_prefix) (pc := 4) d_La_prefix_4 rfl ?_
  by_cases hv : zwithin p 1 250 = true ∧ zwithin f 0 3 = true ∧ zwithin v 0 1000 = true ∧ zwithin r 0 1000 = true
  · by_cases hu : q.1.2.2.2.2.2.2 = true
    · refine zw_throwV (i := i_La_prefix) (pc := 6) (hp := 16) (st := []) (av := [.int p, .int f, .int v, .int r]) 9 rfl (zHp2 (r := []) ht (by decide) (by decide) (by decide) (by decide) (by decide) (by decide) (ztb_of k_354 rfl) (ztb_of k_504 rfl) (ztb_of k_521 rfl)) m_Ho_prefix (ztb_of k_625 rfl) (ztb_of k_626 rfl) (ztb_of k_627 rfl) d_La_prefix_6 rfl h.at (Nat.le_of_ble_eq_true rfl) (Nat.le_of_ble_eq_true rfl) (Nat.le_of_ble_eq_true rfl) (Nat.le_of_ble_eq_true rfl) rfl (t_Ho_prefix_down hnt h hv.1 hv.2.1 hv.2.2.1 hv.2.2.2 hu) fun b => ?_
      refine zo_astore (i := i_La_prefix) (pc := 16) d_La_prefix_16 rfl (Nat.le_of_ble_eq_true rfl) ?_
      refine zo_iconst (i := i_La_prefix) (pc := 18) (v := 2) d_La_prefix_18 (by decide) ?_
      refine zo_ireturn (i := i_La_prefix) (pc := 19) hq d_La_prefix_19 rfl (Nat.le_of_ble_eq_true rfl) (Nat.le_of_ble_eq_true rfl) ?_
      exact k2 hv hu
    · have hu : q.1.2.2.2.2.2.2 = false := by cases hz : q.1.2.2.2.2.2.2 with
        | false => rfl
        | true => exact absurd hz hu
      refine zc_V4 (i := i_La_prefix) (pc := 6) 9 rfl m_Ho_prefix (ztb_of k_625 rfl) (ztb_of k_626 rfl) (ztb_of k_627 rfl) d_La_prefix_6 (Nat.le_of_ble_eq_true rfl) (Nat.le_of_ble_eq_true rfl) (Nat.le_of_ble_eq_true rfl) (Nat.le_of_ble_eq_true rfl) h.at (c_Ho_prefix h hv.1 hv.2.1 hv.2.2.1 hv.2.2.2 hu fun w hw => ?_)
      refine zo_goto (i := i_La_prefix) (pc := 9) (tgt := 20) d_La_prefix_9 (by decide) ?_
      refine zo_iconst (i := i_La_prefix) (pc := 20) (v := 0) d_La_prefix_20 (by decide) ?_
      refine zo_ireturn (i := i_La_prefix) (pc := 21) hq d_La_prefix_21 rfl (Nat.le_of_ble_eq_true rfl) (Nat.le_of_ble_eq_true rfl) ?_
      exact k0 hv hu _ hw
  · refine zw_throwV (i := i_La_prefix) (pc := 6) (hp := 12) (st := []) (av := [.int p, .int f, .int v, .int r]) 9 rfl (zHp1 (r := [(0, 9, 16, 19)]) ht (by decide) (by decide) (by decide) (ztb_of k_354 rfl) (ztb_of k_367 rfl)) m_Ho_prefix (ztb_of k_625 rfl) (ztb_of k_626 rfl) (ztb_of k_627 rfl) d_La_prefix_6 rfl h.at (Nat.le_of_ble_eq_true rfl) (Nat.le_of_ble_eq_true rfl) (Nat.le_of_ble_eq_true rfl) (Nat.le_of_ble_eq_true rfl) rfl (t_Ho_prefix_args hnt hv) fun b => ?_
    refine zo_astore (i := i_La_prefix) (pc := 12) d_La_prefix_12 rfl (Nat.le_of_ble_eq_true rfl) ?_
    refine zo_iconst (i := i_La_prefix) (pc := 14) (v := 1) d_La_prefix_14 (by decide) ?_
    refine zo_ireturn (i := i_La_prefix) (pc := 15) hq d_La_prefix_15 rfl (Nat.le_of_ble_eq_true rfl) (Nat.le_of_ble_eq_true rfl) ?_
    exact k1 hv
abbrev i_La_asked : zY := (y_La_asked, b_La_asked, 5, (some .int), 10, 4, 28)
theorem m_La_asked : zMW i_La_asked [(0, 7, 10, 13), (0, 7, 14, 19)] 4 := ⟨(ztb_of k_647 rfl), ztb_of k_0 rfl, ⟨by decide, by decide⟩, by decide +kernel, by decide⟩
theorem c_La_asked {g : zG} {ws : va_W} {post : Option Value → va_W → Prop} (hnt : g.1.stackTraces = false) {A : Nat → Nat} {q : hT} {R : va_W} (h : hH g A q R ws) {f t n : Int32} (k0 : ((f = 0 ∨ zaddr f = true) ∧ zaddr t = true ∧ zwithin n 1 99 = true) → q.1.2.2.2.2.2.2 = false → ∀ w, hH g A (askedT q f t n) R w → post (some (.int 0)) w) (k1 : ¬ ((f = 0 ∨ zaddr f = true) ∧ zaddr t = true ∧ zwithin n 1 99 = true) → post (some (.int 1)) ws) (k2 : ((f = 0 ∨ zaddr f = true) ∧ zaddr t = true ∧ zwithin n 1 99 = true) → q.1.2.2.2.2.2.2 = true → post (some (.int 2)) ws) : zCW g i_La_asked [(0, 7, 10, 13), (0, 7, 14, 19)] [.ref (A 0), .int f, .int t, .int n] ws post := by
  refine zCW.intro (by decide +kernel) rfl (Nat.le_of_ble_eq_true rfl) fun x0 hq ht => ?_
  refine zo_aload_n (i := i_La_asked) (pc := 0) d_La_asked_0 rfl rfl ?_
  refine zo_iload_n (i := i_La_asked) (pc := 1) d_La_asked_1 rfl ?_
  refine zo_iload_n (i := i_La_asked) (pc := 2) d_La_asked_2 rfl ?_
  refine zo_iload_n (i := i_La_asked) (pc := 3) d_La_asked_3 rfl ?_
  by_cases hv : (f = 0 ∨ zaddr f = true) ∧ zaddr t = true ∧ zwithin n 1 99 = true
  · by_cases hu : q.1.2.2.2.2.2.2 = true
    · refine zw_throwV (i := i_La_asked) (pc := 4) (hp := 14) (st := []) (av := [.int f, .int t, .int n]) 9 rfl (zHp2 (r := []) ht (by decide) (by decide) (by decide) (by decide) (by decide) (by decide) (ztb_of k_354 rfl) (ztb_of k_504 rfl) (ztb_of k_521 rfl)) m_Ho_asked (ztb_of k_648 rfl) (ztb_of k_649 rfl) (ztb_of k_650 rfl) d_La_asked_4 rfl h.at (Nat.le_of_ble_eq_true rfl) (Nat.le_of_ble_eq_true rfl) (Nat.le_of_ble_eq_true rfl) (Nat.le_of_ble_eq_true rfl) rfl (t_Ho_asked_down hnt h hv.1 hv.2.1 hv.2.2 hu) fun b => ?_
      refine zo_astore (i := i_La_asked) (pc := 14) d_La_asked_14 rfl (Nat.le_of_ble_eq_true rfl) ?_
      refine zo_iconst (i := i_La_asked) (pc := 16) (v := 2) d_La_asked_16 (by decide) ?_
      refine zo_ireturn (i := i_La_asked) (pc := 17) hq d_La_asked_17 rfl (Nat.le_of_ble_eq_true rfl) (Nat.le_of_ble_eq_true rfl) ?_
      exact k2 hv hu
    · have hu : q.1.2.2.2.2.2.2 = false := by cases hz : q.1.2.2.2.2.2.2 with
        | false => rfl
        | true => exact absurd hz hu
      refine zc_V3 (i := i_La_asked) (pc := 4) 9 rfl m_Ho_asked (ztb_of k_648 rfl) (ztb_of k_649 rfl) (ztb_of k_650 rfl) d_La_asked_4 (Nat.le_of_ble_eq_true rfl) (Nat.le_of_ble_eq_true rfl) (Nat.le_of_ble_eq_true rfl) (Nat.le_of_ble_eq_true rfl) h.at (c_Ho_asked h hv.1 hv.2.1 hv.2.2 hu fun w hw => ?_)
      refine zo_goto (i := i_La_asked) (pc := 7) (tgt := 18) d_La_asked_7 (by decide) ?_
      refine zo_iconst (i := i_La_asked) (pc := 18) (v := 0) d_La_asked_18 (by decide) ?_
      refine zo_ireturn (i := i_La_asked) (pc := 19) hq d_La_asked_19 rfl (Nat.le_of_ble_eq_true rfl) (Nat.le_of_ble_eq_true rfl) ?_
      exact k0 hv hu _ hw
  · refine zw_throwV (i := i_La_asked) (pc := 4) (hp := 10) (st := []) (av := [.int f, .int t, .int n]) 9 rfl (zHp1 (r := [(0, 7, 14, 19)]) ht (by decide) (by decide) (by decide) (ztb_of k_354 rfl) (ztb_of k_367 rfl)) m_Ho_asked (ztb_of k_648 rfl) (ztb_of k_649 rfl) (ztb_of k_650 rfl) d_La_asked_4 rfl h.at (Nat.le_of_ble_eq_true rfl) (Nat.le_of_ble_eq_true rfl) (Nat.le_of_ble_eq_true rfl) (Nat.le_of_ble_eq_true rfl) rfl (t_Ho_asked_args hnt hv) fun b => ?_
    refine zo_astore (i := i_La_asked) (pc := 10) d_La_asked_10 rfl (Nat.le_of_ble_eq_true rfl) ?_
    refine zo_iconst (i := i_La_asked) (pc := 12) (v := 1) d_La_asked_12 (by decide) ?_
    refine zo_ireturn (i := i_La_asked) (pc := 13) hq d_La_asked_13 rfl (Nat.le_of_ble_eq_true rfl) (Nat.le_of_ble_eq_true rfl) ?_
    exact k1 hv
abbrev i_La_told : zY := (y_La_told, b_La_told, 5, (some .int), 10, 2, 12)
theorem m_La_told : zMW i_La_told [(0, 7, 10, 13), (0, 7, 14, 19)] 4 := ⟨(ztb_of k_671 rfl), ztb_of k_0 rfl, ⟨by decide, by decide⟩, by decide +kernel, by decide⟩
theorem c_La_told {g : zG} {ws : va_W} {post : Option Value → va_W → Prop} (hnt : g.1.stackTraces = false) {A : Nat → Nat} {q : hT} {R : va_W} (h : hH g A q R ws) {t n fl : Int32} (k0 : (zaddr t = true ∧ zwithin n 1 99 = true ∧ zwithin fl 0 7 = true) → q.1.2.2.2.2.2.2 = false → ∀ w, hH g A (toldT q t n fl) R w → post (some (.int 0)) w) (k1 : ¬ (zaddr t = true ∧ zwithin n 1 99 = true ∧ zwithin fl 0 7 = true) → post (some (.int 1)) ws) (k2 : (zaddr t = true ∧ zwithin n 1 99 = true ∧ zwithin fl 0 7 = true) → q.1.2.2.2.2.2.2 = true → post (some (.int 2)) ws) : zCW g i_La_told [(0, 7, 10, 13), (0, 7, 14, 19)] [.ref (A 0), .int t, .int n, .int fl] ws post := by
  refine zCW.intro (by decide +kernel) rfl (Nat.le_of_ble_eq_true rfl) fun x0 hq ht => ?_
  refine zo_aload_n (i := i_La_told) (pc := 0) d_La_told_0 rfl rfl ?_
  refine zo_iload_n (i := i_La_told) (pc := 1) d_La_told_1 rfl ?_
  refine zo_iload_n (i := i_La_told) (pc := 2) d_La_told_2 rfl ?_
  refine zo_iload_n (i := i_La_told) (pc := 3) d_La_told_3 rfl ?_
  by_cases hv : zaddr t = true ∧ zwithin n 1 99 = true ∧ zwithin fl 0 7 = true
  · by_cases hu : q.1.2.2.2.2.2.2 = true
    · refine zw_throwV (i := i_La_told) (pc := 4) (hp := 14) (st := []) (av := [.int t, .int n, .int fl]) 9 rfl (zHp2 (r := []) ht (by decide) (by decide) (by decide) (by decide) (by decide) (by decide) (ztb_of k_354 rfl) (ztb_of k_504 rfl) (ztb_of k_521 rfl)) m_Ho_told (ztb_of k_672 rfl) (ztb_of k_673 rfl) (ztb_of k_674 rfl) d_La_told_4 rfl h.at (Nat.le_of_ble_eq_true rfl) (Nat.le_of_ble_eq_true rfl) (Nat.le_of_ble_eq_true rfl) (Nat.le_of_ble_eq_true rfl) rfl (t_Ho_told_down hnt h hv.1 hv.2.1 hv.2.2 hu) fun b => ?_
      refine zo_astore (i := i_La_told) (pc := 14) d_La_told_14 rfl (Nat.le_of_ble_eq_true rfl) ?_
      refine zo_iconst (i := i_La_told) (pc := 16) (v := 2) d_La_told_16 (by decide) ?_
      refine zo_ireturn (i := i_La_told) (pc := 17) hq d_La_told_17 rfl (Nat.le_of_ble_eq_true rfl) (Nat.le_of_ble_eq_true rfl) ?_
      exact k2 hv hu
    · have hu : q.1.2.2.2.2.2.2 = false := by cases hz : q.1.2.2.2.2.2.2 with
        | false => rfl
        | true => exact absurd hz hu
      refine zc_V3 (i := i_La_told) (pc := 4) 9 rfl m_Ho_told (ztb_of k_672 rfl) (ztb_of k_673 rfl) (ztb_of k_674 rfl) d_La_told_4 (Nat.le_of_ble_eq_true rfl) (Nat.le_of_ble_eq_true rfl) (Nat.le_of_ble_eq_true rfl) (Nat.le_of_ble_eq_true rfl) h.at (c_Ho_told h hv.1 hv.2.1 hv.2.2 hu fun w hw => ?_)
      refine zo_goto (i := i_La_told) (pc := 7) (tgt := 18) d_La_told_7 (by decide) ?_
      refine zo_iconst (i := i_La_told) (pc := 18) (v := 0) d_La_told_18 (by decide) ?_
      refine zo_ireturn (i := i_La_told) (pc := 19) hq d_La_told_19 rfl (Nat.le_of_ble_eq_true rfl) (Nat.le_of_ble_eq_true rfl) ?_
      exact k0 hv hu _ hw
  · refine zw_throwV (i := i_La_told) (pc := 4) (hp := 10) (st := []) (av := [.int t, .int n, .int fl]) 9 rfl (zHp1 (r := [(0, 7, 14, 19)]) ht (by decide) (by decide) (by decide) (ztb_of k_354 rfl) (ztb_of k_367 rfl)) m_Ho_told (ztb_of k_672 rfl) (ztb_of k_673 rfl) (ztb_of k_674 rfl) d_La_told_4 rfl h.at (Nat.le_of_ble_eq_true rfl) (Nat.le_of_ble_eq_true rfl) (Nat.le_of_ble_eq_true rfl) (Nat.le_of_ble_eq_true rfl) rfl (t_Ho_told_args hnt hv) fun b => ?_
    refine zo_astore (i := i_La_told) (pc := 10) d_La_told_10 rfl (Nat.le_of_ble_eq_true rfl) ?_
    refine zo_iconst (i := i_La_told) (pc := 12) (v := 1) d_La_told_12 (by decide) ?_
    refine zo_ireturn (i := i_La_told) (pc := 13) hq d_La_told_13 rfl (Nat.le_of_ble_eq_true rfl) (Nat.le_of_ble_eq_true rfl) ?_
    exact k1 hv
abbrev i_La_smaller : zY := (y_La_smaller, b_La_smaller, 4, (some .int), 10, 4, 25)
theorem m_La_smaller : zMW i_La_smaller [(0, 6, 9, 13), (0, 6, 12, 19)] 3 := ⟨(ztb_of k_720 rfl), ztb_of k_0 rfl, ⟨by decide, by decide⟩, by decide +kernel, by decide⟩
theorem c_La_smaller {g : zG} {ws : va_W} {post : Option Value → va_W → Prop} (hnt : g.1.stackTraces = false) {A : Nat → Nat} {q : hT} {R : va_W} (h : hH g A q R ws) {t n : Int32} (k0 : (zaddr t = true ∧ zwithin n 0 40 = true) → q.1.2.2.2.2.2.2 = false → ∀ w, hH g A (smallT q t n) R w → post (some (.int 0)) w) (k1 : ¬ (zaddr t = true ∧ zwithin n 0 40 = true) → post (some (.int 1)) ws) (k2 : (zaddr t = true ∧ zwithin n 0 40 = true) → q.1.2.2.2.2.2.2 = true → post (some (.int 2)) ws) : zCW g i_La_smaller [(0, 6, 9, 13), (0, 6, 12, 19)] [.ref (A 0), .int t, .int n] ws post := by
  refine zCW.intro (by decide +kernel) rfl (Nat.le_of_ble_eq_true rfl) fun x0 hq ht => ?_
  refine zo_aload_n (i := i_La_smaller) (pc := 0) d_La_smaller_0 rfl rfl ?_
  refine zo_iload_n (i := i_La_smaller) (pc := 1) d_La_smaller_1 rfl ?_
  refine zo_iload_n (i := i_La_smaller) (pc := 2) d_La_smaller_2 rfl ?_
  by_cases hv : zaddr t = true ∧ zwithin n 0 40 = true
  · by_cases hu : q.1.2.2.2.2.2.2 = true
    · refine zw_throwV (i := i_La_smaller) (pc := 3) (hp := 12) (st := []) (av := [.int t, .int n]) 9 rfl (zHp2 (r := []) ht (by decide) (by decide) (by decide) (by decide) (by decide) (by decide) (ztb_of k_354 rfl) (ztb_of k_504 rfl) (ztb_of k_521 rfl)) m_Ho_smaller (ztb_of k_721 rfl) (ztb_of k_722 rfl) (ztb_of k_723 rfl) d_La_smaller_3 rfl h.at (Nat.le_of_ble_eq_true rfl) (Nat.le_of_ble_eq_true rfl) (Nat.le_of_ble_eq_true rfl) (Nat.le_of_ble_eq_true rfl) rfl (t_Ho_smaller_down hnt h hv.1 hv.2 hu) fun b => ?_
      refine zo_astore_n (i := i_La_smaller) (pc := 12) d_La_smaller_12 rfl (Nat.le_of_ble_eq_true rfl) ?_
      refine zo_iconst (i := i_La_smaller) (pc := 13) (v := 2) d_La_smaller_13 (by decide) ?_
      refine zo_ireturn (i := i_La_smaller) (pc := 14) hq d_La_smaller_14 rfl (Nat.le_of_ble_eq_true rfl) (Nat.le_of_ble_eq_true rfl) ?_
      exact k2 hv hu
    · have hu : q.1.2.2.2.2.2.2 = false := by cases hz : q.1.2.2.2.2.2.2 with
        | false => rfl
        | true => exact absurd hz hu
      refine zc_V2 (i := i_La_smaller) (pc := 3) 9 rfl m_Ho_smaller (ztb_of k_721 rfl) (ztb_of k_722 rfl) (ztb_of k_723 rfl) d_La_smaller_3 (Nat.le_of_ble_eq_true rfl) (Nat.le_of_ble_eq_true rfl) (Nat.le_of_ble_eq_true rfl) (Nat.le_of_ble_eq_true rfl) h.at (c_Ho_smaller h hv.1 hv.2 hu fun w hw => ?_)
      refine zo_goto (i := i_La_smaller) (pc := 6) (tgt := 15) d_La_smaller_6 (by decide) ?_
      refine zo_iconst (i := i_La_smaller) (pc := 15) (v := 0) d_La_smaller_15 (by decide) ?_
      refine zo_ireturn (i := i_La_smaller) (pc := 16) hq d_La_smaller_16 rfl (Nat.le_of_ble_eq_true rfl) (Nat.le_of_ble_eq_true rfl) ?_
      exact k0 hv hu _ hw
  · refine zw_throwV (i := i_La_smaller) (pc := 3) (hp := 9) (st := []) (av := [.int t, .int n]) 9 rfl (zHp1 (r := [(0, 6, 12, 19)]) ht (by decide) (by decide) (by decide) (ztb_of k_354 rfl) (ztb_of k_367 rfl)) m_Ho_smaller (ztb_of k_721 rfl) (ztb_of k_722 rfl) (ztb_of k_723 rfl) d_La_smaller_3 rfl h.at (Nat.le_of_ble_eq_true rfl) (Nat.le_of_ble_eq_true rfl) (Nat.le_of_ble_eq_true rfl) (Nat.le_of_ble_eq_true rfl) rfl (t_Ho_smaller_args hnt hv) fun b => ?_
    refine zo_astore_n (i := i_La_smaller) (pc := 9) d_La_smaller_9 rfl (Nat.le_of_ble_eq_true rfl) ?_
    refine zo_iconst (i := i_La_smaller) (pc := 10) (v := 1) d_La_smaller_10 (by decide) ?_
    refine zo_ireturn (i := i_La_smaller) (pc := 11) hq d_La_smaller_11 rfl (Nat.le_of_ble_eq_true rfl) (Nat.le_of_ble_eq_true rfl) ?_
    exact k1 hv
abbrev i_La_tick : zY := (y_La_tick, b_La_tick, 3, (some .int), 10, 1, 6)
theorem m_La_tick : zMW i_La_tick [(0, 5, 8, 13)] 2 := ⟨(ztb_of k_353 rfl), ztb_of k_0 rfl, ⟨by decide, by decide⟩, by decide +kernel, by decide⟩
theorem c_La_tick {g : zG} {ws : va_W} {post : Option Value → va_W → Prop} (hnt : g.1.stackTraces = false) {A : Nat → Nat} {q : hT} {R : va_W} (h : hH g A q R ws) {n : Int32} (k0 : ∀ c : Nat, n = nI c → 1 ≤ c → c ≤ 100 → ∀ w, hH g A (tickT c q) R w → post (some (.int 0)) w) (k1 : ¬ (zwithin n 1 100 = true) → post (some (.int 1)) ws) : zCW g i_La_tick [(0, 5, 8, 13)] [.ref (A 0), .int n] ws post := by
  refine zCW.intro (by decide +kernel) rfl (Nat.le_of_ble_eq_true rfl) fun x0 hq ht => ?_
  refine zo_aload_n (i := i_La_tick) (pc := 0) d_La_tick_0 rfl rfl ?_
  refine zo_iload_n (i := i_La_tick) (pc := 1) d_La_tick_1 rfl ?_
  by_cases hv : zwithin n 1 100 = true
  · obtain ⟨c, rfl, hc1, hc2⟩ := zwithin_nI (a := 1) (b := 100) (by decide) (by decide) hv
    refine zc_V1 (i := i_La_tick) (pc := 2) 9 rfl m_Ho_tick (ztb_of k_355 rfl) (ztb_of k_356 rfl) (ztb_of k_357 rfl) d_La_tick_2 (Nat.le_of_ble_eq_true rfl) (Nat.le_of_ble_eq_true rfl) (Nat.le_of_ble_eq_true rfl) (Nat.le_of_ble_eq_true rfl) h.at (c_Ho_tick h hc1 hc2 fun w hw => ?_)
    refine zo_goto (i := i_La_tick) (pc := 5) (tgt := 11) d_La_tick_5 (by decide) ?_
    refine zo_iconst (i := i_La_tick) (pc := 11) (v := 0) d_La_tick_11 (by decide) ?_
    refine zo_ireturn (i := i_La_tick) (pc := 12) hq d_La_tick_12 rfl (Nat.le_of_ble_eq_true rfl) (Nat.le_of_ble_eq_true rfl) ?_
    exact k0 c rfl hc1 hc2 _ hw
  · refine zw_throwV (i := i_La_tick) (pc := 2) (hp := 8) (st := []) (av := [.int n]) 9 rfl (zHp1 (r := []) ht (by decide) (by decide) (by decide) (ztb_of k_354 rfl) (ztb_of k_367 rfl)) m_Ho_tick (ztb_of k_355 rfl) (ztb_of k_356 rfl) (ztb_of k_357 rfl) d_La_tick_2 rfl h.at (Nat.le_of_ble_eq_true rfl) (Nat.le_of_ble_eq_true rfl) (Nat.le_of_ble_eq_true rfl) (Nat.le_of_ble_eq_true rfl) rfl (t_Ho_tick_args hnt hv) fun b => ?_
    refine zo_astore_n (i := i_La_tick) (pc := 8) d_La_tick_8 rfl (Nat.le_of_ble_eq_true rfl) ?_
    refine zo_iconst (i := i_La_tick) (pc := 9) (v := 1) d_La_tick_9 (by decide) ?_
    refine zo_ireturn (i := i_La_tick) (pc := 10) hq d_La_tick_10 rfl (Nat.le_of_ble_eq_true rfl) (Nat.le_of_ble_eq_true rfl) ?_
    exact k1 hv
abbrev i_La_send : zY := (y_La_send, b_La_send, 5, (some .int), 10, 4, 28)
theorem m_La_send : zMW i_La_send [(0, 10, 13, 13), (0, 10, 17, 19)] 4 := ⟨(ztb_of k_686 rfl), ztb_of k_0 rfl, ⟨by decide, by decide⟩, by decide +kernel, by decide⟩
theorem c_La_send {g : zG} {ws : va_W} {post : Option Value → va_W → Prop} (hnt : g.1.stackTraces = false) {A : Nat → Nat} {q : hT} {R : va_W} {lo : Nat} {fl : Nat → Int64} (h : hH g A q ((lo, .inl (g.2.2.1.2.2.1, 1, .inr (.inl fl))) :: R) ws) {t n : Int32} (k0 : (zaddr t = true ∧ zwithin n 1 40 = true) → q.1.2.2.2.2.2.2 = false → ∀ w, hH g A (sendQ q t n).2 ((lo, .inl (g.2.2.1.2.2.1, 1, .inr (.inl (vp_updL fl 0 ((sendQ q t n).1).toInt64)))) :: R) w → post (some (.int 0)) w) (k1 : ¬ (zaddr t = true ∧ zwithin n 1 40 = true) → post (some (.int 1)) ws) (k2 : (zaddr t = true ∧ zwithin n 1 40 = true) → q.1.2.2.2.2.2.2 = true → post (some (.int 2)) ws) : zCW g i_La_send [(0, 10, 13, 13), (0, 10, 17, 19)] [.ref (A 0), .int t, .int n, .ref lo] ws post := by
  refine zCW.intro (by decide +kernel) rfl (Nat.le_of_ble_eq_true rfl) fun x0 hq ht => ?_
  refine zo_aload_n (i := i_La_send) (pc := 0) d_La_send_0 rfl rfl ?_
  refine zo_iconst (i := i_La_send) (pc := 1) (v := 0) d_La_send_1 (by decide) ?_
  refine zo_aload_n (i := i_La_send) (pc := 2) d_La_send_2 rfl rfl ?_
  refine zo_iload_n (i := i_La_send) (pc := 3) d_La_send_3 rfl ?_
  refine zo_iload_n (i := i_La_send) (pc := 4) d_La_send_4 rfl ?_
  by_cases hv : zaddr t = true ∧ zwithin n 1 40 = true
  · by_cases hu : q.1.2.2.2.2.2.2 = true
    · refine zw_throwV (i := i_La_send) (pc := 5) (hp := 17) (st := [.int 0, .ref lo]) (av := [.int t, .int n]) 9 rfl (zHp2 (r := []) ht (by decide) (by decide) (by decide) (by decide) (by decide) (by decide) (ztb_of k_354 rfl) (ztb_of k_504 rfl) (ztb_of k_521 rfl)) m_Ho_send (ztb_of k_687 rfl) (ztb_of k_688 rfl) (ztb_of k_689 rfl) d_La_send_5 rfl h.at (Nat.le_of_ble_eq_true rfl) (Nat.le_of_ble_eq_true rfl) (Nat.le_of_ble_eq_true rfl) (Nat.le_of_ble_eq_true rfl) rfl (t_Ho_send_down hnt h hv.1 hv.2 hu) fun b => ?_
      refine zo_astore (i := i_La_send) (pc := 17) d_La_send_17 rfl (Nat.le_of_ble_eq_true rfl) ?_
      refine zo_iconst (i := i_La_send) (pc := 19) (v := 2) d_La_send_19 (by decide) ?_
      refine zo_ireturn (i := i_La_send) (pc := 20) hq d_La_send_20 rfl (Nat.le_of_ble_eq_true rfl) (Nat.le_of_ble_eq_true rfl) ?_
      exact k2 hv hu
    · have hu : q.1.2.2.2.2.2.2 = false := by cases hz : q.1.2.2.2.2.2.2 with
        | false => rfl
        | true => exact absurd hz hu
      refine zc_V2 (i := i_La_send) (pc := 5) 9 rfl m_Ho_send (ztb_of k_687 rfl) (ztb_of k_688 rfl) (ztb_of k_689 rfl) d_La_send_5 (Nat.le_of_ble_eq_true rfl) (Nat.le_of_ble_eq_true rfl) (Nat.le_of_ble_eq_true rfl) (Nat.le_of_ble_eq_true rfl) h.at (c_Ho_send h hv.1 hv.2 hu fun w hw => ?_)
      refine zo_i2l (i := i_La_send) (pc := 8) d_La_send_8 ?_
      refine zo_lastore (i := i_La_send) (pc := 9) d_La_send_9 hw.ans (by unfold vp_in; decide) ?_
      refine zo_goto (i := i_La_send) (pc := 10) (tgt := 21) d_La_send_10 (by decide) ?_
      refine zo_iconst (i := i_La_send) (pc := 21) (v := 0) d_La_send_21 (by decide) ?_
      refine zo_ireturn (i := i_La_send) (pc := 22) hq d_La_send_22 rfl (Nat.le_of_ble_eq_true rfl) (Nat.le_of_ble_eq_true rfl) ?_
      exact k0 hv hu _ (hw.setA _)
  · refine zw_throwV (i := i_La_send) (pc := 5) (hp := 13) (st := [.int 0, .ref lo]) (av := [.int t, .int n]) 9 rfl (zHp1 (r := [(0, 10, 17, 19)]) ht (by decide) (by decide) (by decide) (ztb_of k_354 rfl) (ztb_of k_367 rfl)) m_Ho_send (ztb_of k_687 rfl) (ztb_of k_688 rfl) (ztb_of k_689 rfl) d_La_send_5 rfl h.at (Nat.le_of_ble_eq_true rfl) (Nat.le_of_ble_eq_true rfl) (Nat.le_of_ble_eq_true rfl) (Nat.le_of_ble_eq_true rfl) rfl (t_Ho_send_args hnt hv) fun b => ?_
    refine zo_astore (i := i_La_send) (pc := 13) d_La_send_13 rfl (Nat.le_of_ble_eq_true rfl) ?_
    refine zo_iconst (i := i_La_send) (pc := 15) (v := 1) d_La_send_15 (by decide) ?_
    refine zo_ireturn (i := i_La_send) (pc := 16) hq d_La_send_16 rfl (Nat.le_of_ble_eq_true rfl) (Nat.le_of_ble_eq_true rfl) ?_
    exact k1 hv
abbrev i_La_come : zY := (y_La_come, b_La_come, 5, (some .int), 10, 2, 12)
theorem m_La_come : zMW i_La_come [(0, 10, 13, 13), (0, 10, 17, 19)] 4 := ⟨(ztb_of k_743 rfl), ztb_of k_0 rfl, ⟨by decide, by decide⟩, by decide +kernel, by decide⟩
theorem c_La_come {g : zG} {ws : va_W} {post : Option Value → va_W → Prop} (hnt : g.1.stackTraces = false) {A : Nat → Nat} {q : hT} {R : va_W} {lo : Nat} {fl : Nat → Int64} (h : hH g A q ((lo, .inl (g.2.2.1.2.2.1, 1, .inr (.inl fl))) :: R) ws) {f t : Int32} (k0 : ((f = 0 ∨ zaddr f = true) ∧ (t = 65535 ∨ zaddr t = true)) → q.1.2.2.2.2.2.2 = false → ∀ w, hH g A (comeT q f t).2 ((lo, .inl (g.2.2.1.2.2.1, 1, .inr (.inl (vp_updL fl 0 ((comeT q f t).1).toInt64)))) :: R) w → post (some (.int 0)) w) (k1 : ¬ ((f = 0 ∨ zaddr f = true) ∧ (t = 65535 ∨ zaddr t = true)) → post (some (.int 1)) ws) (k2 : ((f = 0 ∨ zaddr f = true) ∧ (t = 65535 ∨ zaddr t = true)) → q.1.2.2.2.2.2.2 = true → post (some (.int 2)) ws) : zCW g i_La_come [(0, 10, 13, 13), (0, 10, 17, 19)] [.ref (A 0), .int f, .int t, .ref lo] ws post := by
  refine zCW.intro (by decide +kernel) rfl (Nat.le_of_ble_eq_true rfl) fun x0 hq ht => ?_
  refine zo_aload_n (i := i_La_come) (pc := 0) d_La_come_0 rfl rfl ?_
  refine zo_iconst (i := i_La_come) (pc := 1) (v := 0) d_La_come_1 (by decide) ?_
  refine zo_aload_n (i := i_La_come) (pc := 2) d_La_come_2 rfl rfl ?_
  refine zo_iload_n (i := i_La_come) (pc := 3) d_La_come_3 rfl ?_
  refine zo_iload_n (i := i_La_come) (pc := 4) d_La_come_4 rfl ?_
  by_cases hv : (f = 0 ∨ zaddr f = true) ∧ (t = 65535 ∨ zaddr t = true)
  · by_cases hu : q.1.2.2.2.2.2.2 = true
    · refine zw_throwV (i := i_La_come) (pc := 5) (hp := 17) (st := [.int 0, .ref lo]) (av := [.int f, .int t]) 9 rfl (zHp2 (r := []) ht (by decide) (by decide) (by decide) (by decide) (by decide) (by decide) (ztb_of k_354 rfl) (ztb_of k_504 rfl) (ztb_of k_521 rfl)) m_Ho_come (ztb_of k_744 rfl) (ztb_of k_745 rfl) (ztb_of k_746 rfl) d_La_come_5 rfl h.at (Nat.le_of_ble_eq_true rfl) (Nat.le_of_ble_eq_true rfl) (Nat.le_of_ble_eq_true rfl) (Nat.le_of_ble_eq_true rfl) rfl (t_Ho_come_down hnt h hv.1 hv.2 hu) fun b => ?_
      refine zo_astore (i := i_La_come) (pc := 17) d_La_come_17 rfl (Nat.le_of_ble_eq_true rfl) ?_
      refine zo_iconst (i := i_La_come) (pc := 19) (v := 2) d_La_come_19 (by decide) ?_
      refine zo_ireturn (i := i_La_come) (pc := 20) hq d_La_come_20 rfl (Nat.le_of_ble_eq_true rfl) (Nat.le_of_ble_eq_true rfl) ?_
      exact k2 hv hu
    · have hu : q.1.2.2.2.2.2.2 = false := by cases hz : q.1.2.2.2.2.2.2 with
        | false => rfl
        | true => exact absurd hz hu
      refine zc_V2 (i := i_La_come) (pc := 5) 9 rfl m_Ho_come (ztb_of k_744 rfl) (ztb_of k_745 rfl) (ztb_of k_746 rfl) d_La_come_5 (Nat.le_of_ble_eq_true rfl) (Nat.le_of_ble_eq_true rfl) (Nat.le_of_ble_eq_true rfl) (Nat.le_of_ble_eq_true rfl) h.at (c_Ho_come h hv.1 hv.2 hu fun w hw => ?_)
      refine zo_i2l (i := i_La_come) (pc := 8) d_La_come_8 ?_
      refine zo_lastore (i := i_La_come) (pc := 9) d_La_come_9 hw.ans (by unfold vp_in; decide) ?_
      refine zo_goto (i := i_La_come) (pc := 10) (tgt := 21) d_La_come_10 (by decide) ?_
      refine zo_iconst (i := i_La_come) (pc := 21) (v := 0) d_La_come_21 (by decide) ?_
      refine zo_ireturn (i := i_La_come) (pc := 22) hq d_La_come_22 rfl (Nat.le_of_ble_eq_true rfl) (Nat.le_of_ble_eq_true rfl) ?_
      exact k0 hv hu _ (hw.setA _)
  · refine zw_throwV (i := i_La_come) (pc := 5) (hp := 13) (st := [.int 0, .ref lo]) (av := [.int f, .int t]) 9 rfl (zHp1 (r := [(0, 10, 17, 19)]) ht (by decide) (by decide) (by decide) (ztb_of k_354 rfl) (ztb_of k_367 rfl)) m_Ho_come (ztb_of k_744 rfl) (ztb_of k_745 rfl) (ztb_of k_746 rfl) d_La_come_5 rfl h.at (Nat.le_of_ble_eq_true rfl) (Nat.le_of_ble_eq_true rfl) (Nat.le_of_ble_eq_true rfl) (Nat.le_of_ble_eq_true rfl) rfl (t_Ho_come_args hnt hv) fun b => ?_
    refine zo_astore (i := i_La_come) (pc := 13) d_La_come_13 rfl (Nat.le_of_ble_eq_true rfl) ?_
    refine zo_iconst (i := i_La_come) (pc := 15) (v := 1) d_La_come_15 (by decide) ?_
    refine zo_ireturn (i := i_La_come) (pc := 16) hq d_La_come_16 rfl (Nat.le_of_ble_eq_true rfl) (Nat.le_of_ble_eq_true rfl) ?_
    exact k1 hv
abbrev i_La_header : zY := (y_La_header, b_La_header, 5, (some .int), 10, 2, 12)
theorem m_La_header : zMW i_La_header [(0, 10, 13, 13), (0, 10, 17, 19)] 4 := ⟨(ztb_of k_727 rfl), ztb_of k_0 rfl, ⟨by decide, by decide⟩, by decide +kernel, by decide⟩
theorem c_La_header {g : zG} {ws : va_W} {post : Option Value → va_W → Prop} (hnt : g.1.stackTraces = false) {A : Nat → Nat} {q : hT} {R : va_W} {lo : Nat} {fl : Nat → Int64} (h : hH g A q ((lo, .inl (g.2.2.1.2.2.1, 1, .inr (.inl fl))) :: R) ws) {a b : Int32} (k0 : (zwithin a 0 9 = true ∧ zwithin b 0 3 = true) → q.2.2.2.2.2.2.2.1 < 6 → ∀ w, hH g A (headT q a b) ((lo, .inl (g.2.2.1.2.2.1, 1, .inr (.inl (vp_updL fl 0 (nI (q.2.2.2.2.2.2.2.1 + 1)).toInt64)))) :: R) w → post (some (.int 0)) w) (k1 : ¬ (zwithin a 0 9 = true ∧ zwithin b 0 3 = true) → post (some (.int 1)) ws) (k2 : (zwithin a 0 9 = true ∧ zwithin b 0 3 = true) → ¬ q.2.2.2.2.2.2.2.1 < 6 → post (some (.int 2)) ws) : zCW g i_La_header [(0, 10, 13, 13), (0, 10, 17, 19)] [.ref (A 0), .int a, .int b, .ref lo] ws post := by
  refine zCW.intro (by decide +kernel) rfl (Nat.le_of_ble_eq_true rfl) fun x0 hq ht => ?_
  refine zo_aload_n (i := i_La_header) (pc := 0) d_La_header_0 rfl rfl ?_
  refine zo_iconst (i := i_La_header) (pc := 1) (v := 0) d_La_header_1 (by decide) ?_
  refine zo_aload_n (i := i_La_header) (pc := 2) d_La_header_2 rfl rfl ?_
  refine zo_iload_n (i := i_La_header) (pc := 3) d_La_header_3 rfl ?_
  refine zo_iload_n (i := i_La_header) (pc := 4) d_La_header_4 rfl ?_
  by_cases hv : zwithin a 0 9 = true ∧ zwithin b 0 3 = true
  · by_cases hu : ¬ q.2.2.2.2.2.2.2.1 < 6
    · refine zw_throwV (i := i_La_header) (pc := 5) (hp := 17) (st := [.int 0, .ref lo]) (av := [.int a, .int b]) 9 rfl (zHp2 (r := []) ht (by decide) (by decide) (by decide) (by decide) (by decide) (by decide) (ztb_of k_354 rfl) (ztb_of k_504 rfl) (ztb_of k_521 rfl)) m_Ho_header (ztb_of k_728 rfl) (ztb_of k_729 rfl) (ztb_of k_730 rfl) d_La_header_5 rfl h.at (Nat.le_of_ble_eq_true rfl) (Nat.le_of_ble_eq_true rfl) (Nat.le_of_ble_eq_true rfl) (Nat.le_of_ble_eq_true rfl) rfl (t_Ho_header_full hnt h hv.1 hv.2 hu) fun b => ?_
      refine zo_astore (i := i_La_header) (pc := 17) d_La_header_17 rfl (Nat.le_of_ble_eq_true rfl) ?_
      refine zo_iconst (i := i_La_header) (pc := 19) (v := 2) d_La_header_19 (by decide) ?_
      refine zo_ireturn (i := i_La_header) (pc := 20) hq d_La_header_20 rfl (Nat.le_of_ble_eq_true rfl) (Nat.le_of_ble_eq_true rfl) ?_
      exact k2 hv hu
    · refine zc_V2 (i := i_La_header) (pc := 5) 9 rfl m_Ho_header (ztb_of k_728 rfl) (ztb_of k_729 rfl) (ztb_of k_730 rfl) d_La_header_5 (Nat.le_of_ble_eq_true rfl) (Nat.le_of_ble_eq_true rfl) (Nat.le_of_ble_eq_true rfl) (Nat.le_of_ble_eq_true rfl) h.at (c_Ho_header h hv.1 hv.2 (Classical.not_not.mp hu) fun w hw => ?_)
      refine zo_i2l (i := i_La_header) (pc := 8) d_La_header_8 ?_
      refine zo_lastore (i := i_La_header) (pc := 9) d_La_header_9 hw.ans (by unfold vp_in; decide) ?_
      refine zo_goto (i := i_La_header) (pc := 10) (tgt := 21) d_La_header_10 (by decide) ?_
      refine zo_iconst (i := i_La_header) (pc := 21) (v := 0) d_La_header_21 (by decide) ?_
      refine zo_ireturn (i := i_La_header) (pc := 22) hq d_La_header_22 rfl (Nat.le_of_ble_eq_true rfl) (Nat.le_of_ble_eq_true rfl) ?_
      exact k0 hv (Classical.not_not.mp hu) _ (hw.setA _)
  · refine zw_throwV (i := i_La_header) (pc := 5) (hp := 13) (st := [.int 0, .ref lo]) (av := [.int a, .int b]) 9 rfl (zHp1 (r := [(0, 10, 17, 19)]) ht (by decide) (by decide) (by decide) (ztb_of k_354 rfl) (ztb_of k_367 rfl)) m_Ho_header (ztb_of k_728 rfl) (ztb_of k_729 rfl) (ztb_of k_730 rfl) d_La_header_5 rfl h.at (Nat.le_of_ble_eq_true rfl) (Nat.le_of_ble_eq_true rfl) (Nat.le_of_ble_eq_true rfl) (Nat.le_of_ble_eq_true rfl) rfl (t_Ho_header_args hnt hv) fun b => ?_
    refine zo_astore (i := i_La_header) (pc := 13) d_La_header_13 rfl (Nat.le_of_ble_eq_true rfl) ?_
    refine zo_iconst (i := i_La_header) (pc := 15) (v := 1) d_La_header_15 (by decide) ?_
    refine zo_ireturn (i := i_La_header) (pc := 16) hq d_La_header_16 rfl (Nat.le_of_ble_eq_true rfl) (Nat.le_of_ble_eq_true rfl) ?_
    exact k1 hv
abbrev i_La_count : zY := (y_La_count, b_La_count, 4, (some .int), 10, 1, 6)
theorem m_La_count : zMW i_La_count [(0, 9, 12, 13)] 3 := ⟨(ztb_of k_770 rfl), ztb_of k_0 rfl, ⟨by decide, by decide⟩, by decide +kernel, by decide⟩
theorem c_La_count {g : zG} {ws : va_W} {post : Option Value → va_W → Prop} (hnt : g.1.stackTraces = false) {A : Nat → Nat} {q : hT} {R : va_W} {lo : Nat} {fl : Nat → Int64} (h : hH g A q ((lo, .inl (g.2.2.1.2.2.1, 1, .inr (.inl fl))) :: R) ws) {w : Int32} (k0 : zwithin w 0 11 = true → ∀ w', hH g A q ((lo, .inl (g.2.2.1.2.2.1, 1, .inr (.inl (vp_updL fl 0 (cntT q w).toInt64)))) :: R) w' → post (some (.int 0)) w') (k1 : ¬ (zwithin w 0 11 = true) → post (some (.int 1)) ws) : zCW g i_La_count [(0, 9, 12, 13)] [.ref (A 0), .int w, .ref lo] ws post := by
  refine zCW.intro (by decide +kernel) rfl (Nat.le_of_ble_eq_true rfl) fun x0 hq ht => ?_
  refine zo_aload_n (i := i_La_count) (pc := 0) d_La_count_0 rfl rfl ?_
  refine zo_iconst (i := i_La_count) (pc := 1) (v := 0) d_La_count_1 (by decide) ?_
  refine zo_aload_n (i := i_La_count) (pc := 2) d_La_count_2 rfl rfl ?_
  refine zo_iload_n (i := i_La_count) (pc := 3) d_La_count_3 rfl ?_
  by_cases hv : zwithin w 0 11 = true
  · refine zc_V1 (i := i_La_count) (pc := 4) 9 rfl m_Ho_count (ztb_of k_771 rfl) (ztb_of k_772 rfl) (ztb_of k_773 rfl) d_La_count_4 (Nat.le_of_ble_eq_true rfl) (Nat.le_of_ble_eq_true rfl) (Nat.le_of_ble_eq_true rfl) (Nat.le_of_ble_eq_true rfl) h.at (c_Ho_count h hv ?_)
    refine zo_i2l (i := i_La_count) (pc := 7) d_La_count_7 ?_
    refine zo_lastore (i := i_La_count) (pc := 8) d_La_count_8 h.ans (by unfold vp_in; decide) ?_
    refine zo_goto (i := i_La_count) (pc := 9) (tgt := 15) d_La_count_9 (by decide) ?_
    refine zo_iconst (i := i_La_count) (pc := 15) (v := 0) d_La_count_15 (by decide) ?_
    refine zo_ireturn (i := i_La_count) (pc := 16) hq d_La_count_16 rfl (Nat.le_of_ble_eq_true rfl) (Nat.le_of_ble_eq_true rfl) ?_
    exact k0 hv _ (h.setA _)
  · refine zw_throwV (i := i_La_count) (pc := 4) (hp := 12) (st := [.int 0, .ref lo]) (av := [.int w]) 9 rfl (zHp1 (r := []) ht (by decide) (by decide) (by decide) (ztb_of k_354 rfl) (ztb_of k_367 rfl)) m_Ho_count (ztb_of k_771 rfl) (ztb_of k_772 rfl) (ztb_of k_773 rfl) d_La_count_4 rfl h.at (Nat.le_of_ble_eq_true rfl) (Nat.le_of_ble_eq_true rfl) (Nat.le_of_ble_eq_true rfl) (Nat.le_of_ble_eq_true rfl) rfl (t_Ho_count_args hnt hv) fun b => ?_
    refine zo_astore_n (i := i_La_count) (pc := 12) d_La_count_12 rfl (Nat.le_of_ble_eq_true rfl) ?_
    refine zo_iconst (i := i_La_count) (pc := 13) (v := 1) d_La_count_13 (by decide) ?_
    refine zo_ireturn (i := i_La_count) (pc := 14) hq d_La_count_14 rfl (Nat.le_of_ble_eq_true rfl) (Nat.le_of_ble_eq_true rfl) ?_
    exact k1 hv
abbrev i_La_own : zY := (y_La_own, b_La_own, 4, (some .int), 10, 1, 6)
theorem m_La_own : zMW i_La_own [(0, 9, 12, 52)] 3 := ⟨(ztb_of k_777 rfl), ztb_of k_0 rfl, ⟨by decide, by decide⟩, by decide +kernel, by decide⟩
theorem c_La_own {g : zG} {ws : va_W} {post : Option Value → va_W → Prop} (hnt : g.1.stackTraces = false) {A : Nat → Nat} {q : hT} {R : va_W} {lo : Nat} {fl : Nat → Int64} (h : hH g A q ((lo, .inl (g.2.2.1.2.2.1, 1, .inr (.inl fl))) :: R) ws) {j : Int32} (k0 : ∀ (c : Nat) (x : zOD), j = nI c → q.2.2.1[c]? = some x → ∀ w, hH g A q ((lo, .inl (g.2.2.1.2.2.1, 1, .inr (.inl (vp_updL fl 0 (x.1 + 65536 * x.2.2.1).toInt64)))) :: R) w → post (some (.int 0)) w) (k1 : ¬ (¬ j < 0 ∧ j < nI q.2.2.1.length) → post (some (.int 1)) ws) : zCW g i_La_own [(0, 9, 12, 52)] [.ref (A 0), .int j, .ref lo] ws post := by
  refine zCW.intro (by decide +kernel) rfl (Nat.le_of_ble_eq_true rfl) fun x0 hq ht => ?_
  refine zo_aload_n (i := i_La_own) (pc := 0) d_La_own_0 rfl rfl ?_
  refine zo_iconst (i := i_La_own) (pc := 1) (v := 0) d_La_own_1 (by decide) ?_
  refine zo_aload_n (i := i_La_own) (pc := 2) d_La_own_2 rfl rfl ?_
  refine zo_iload_n (i := i_La_own) (pc := 3) d_La_own_3 rfl ?_
  by_cases hv : ¬ j < 0 ∧ j < nI q.2.2.1.length
  · obtain ⟨c, rfl, hc1, hc2⟩ := nI_ex hv.1
    have hlen := h.len
    have hlt : c < q.2.2.1.length := nI_ltN hc1 (by omega) hv.2
    obtain ⟨x, hx⟩ : ∃ x, q.2.2.1[c]? = some x := ⟨_, List.getElem?_eq_getElem hlt⟩
    refine zc_V1 (i := i_La_own) (pc := 4) 9 rfl m_Ho_own (ztb_of k_779 rfl) (ztb_of k_780 rfl) (ztb_of k_781 rfl) d_La_own_4 (Nat.le_of_ble_eq_true rfl) (Nat.le_of_ble_eq_true rfl) (Nat.le_of_ble_eq_true rfl) (Nat.le_of_ble_eq_true rfl) h.at (c_Ho_own h hx ?_)
    refine zo_i2l (i := i_La_own) (pc := 7) d_La_own_7 ?_
    refine zo_lastore (i := i_La_own) (pc := 8) d_La_own_8 h.ans (by unfold vp_in; decide) ?_
    refine zo_goto (i := i_La_own) (pc := 9) (tgt := 15) d_La_own_9 (by decide) ?_
    refine zo_iconst (i := i_La_own) (pc := 15) (v := 0) d_La_own_15 (by decide) ?_
    refine zo_ireturn (i := i_La_own) (pc := 16) hq d_La_own_16 rfl (Nat.le_of_ble_eq_true rfl) (Nat.le_of_ble_eq_true rfl) ?_
    exact k0 c x rfl hx _ (h.setA _)
  · refine zw_throwV (i := i_La_own) (pc := 4) (hp := 12) (st := [.int 0, .ref lo]) (av := [.int j]) 9 rfl (zHp1 (r := []) ht (by decide) (by decide) (by decide) (ztb_of k_778 rfl) (ztb_of k_788 rfl)) m_Ho_own (ztb_of k_779 rfl) (ztb_of k_780 rfl) (ztb_of k_781 rfl) d_La_own_4 rfl h.at (Nat.le_of_ble_eq_true rfl) (Nat.le_of_ble_eq_true rfl) (Nat.le_of_ble_eq_true rfl) (Nat.le_of_ble_eq_true rfl) rfl (t_Ho_own_index hnt h hv) fun b => ?_
    refine zo_astore_n (i := i_La_own) (pc := 12) d_La_own_12 rfl (Nat.le_of_ble_eq_true rfl) ?_
    refine zo_iconst (i := i_La_own) (pc := 13) (v := 1) d_La_own_13 (by decide) ?_
    refine zo_ireturn (i := i_La_own) (pc := 14) hq d_La_own_14 rfl (Nat.le_of_ble_eq_true rfl) (Nat.le_of_ble_eq_true rfl) ?_
    exact k1 hv
abbrev i_La_until : zY := (y_La_until, b_La_until, 4, (some .int), 10, 1, 6)
theorem m_La_until : zMW i_La_until [(0, 9, 12, 52)] 3 := ⟨(ztb_of k_805 rfl), ztb_of k_0 rfl, ⟨by decide, by decide⟩, by decide +kernel, by decide⟩
theorem c_La_until {g : zG} {ws : va_W} {post : Option Value → va_W → Prop} (hnt : g.1.stackTraces = false) {A : Nat → Nat} {q : hT} {R : va_W} {lo : Nat} {fl : Nat → Int64} (h : hH g A q ((lo, .inl (g.2.2.1.2.2.1, 1, .inr (.inl fl))) :: R) ws) {j : Int32} (k0 : ∀ (c : Nat) (x : zOD), j = nI c → q.2.2.1[c]? = some x → ∀ w, hH g A q ((lo, .inl (g.2.2.1.2.2.1, 1, .inr (.inl (vp_updL fl 0 (if x.2.2.2.1 = 2147483647 then -1 else x.2.2.2.1).toInt64)))) :: R) w → post (some (.int 0)) w) (k1 : ¬ (¬ j < 0 ∧ j < nI q.2.2.1.length) → post (some (.int 1)) ws) : zCW g i_La_until [(0, 9, 12, 52)] [.ref (A 0), .int j, .ref lo] ws post := by
  refine zCW.intro (by decide +kernel) rfl (Nat.le_of_ble_eq_true rfl) fun x0 hq ht => ?_
  refine zo_aload_n (i := i_La_until) (pc := 0) d_La_until_0 rfl rfl ?_
  refine zo_iconst (i := i_La_until) (pc := 1) (v := 0) d_La_until_1 (by decide) ?_
  refine zo_aload_n (i := i_La_until) (pc := 2) d_La_until_2 rfl rfl ?_
  refine zo_iload_n (i := i_La_until) (pc := 3) d_La_until_3 rfl ?_
  by_cases hv : ¬ j < 0 ∧ j < nI q.2.2.1.length
  · obtain ⟨c, rfl, hc1, hc2⟩ := nI_ex hv.1
    have hlen := h.len
    have hlt : c < q.2.2.1.length := nI_ltN hc1 (by omega) hv.2
    obtain ⟨x, hx⟩ : ∃ x, q.2.2.1[c]? = some x := ⟨_, List.getElem?_eq_getElem hlt⟩
    refine zc_V1 (i := i_La_until) (pc := 4) 9 rfl m_Ho_until (ztb_of k_806 rfl) (ztb_of k_807 rfl) (ztb_of k_808 rfl) d_La_until_4 (Nat.le_of_ble_eq_true rfl) (Nat.le_of_ble_eq_true rfl) (Nat.le_of_ble_eq_true rfl) (Nat.le_of_ble_eq_true rfl) h.at (c_Ho_until h hx ?_)
    refine zo_i2l (i := i_La_until) (pc := 7) d_La_until_7 ?_
    refine zo_lastore (i := i_La_until) (pc := 8) d_La_until_8 h.ans (by unfold vp_in; decide) ?_
    refine zo_goto (i := i_La_until) (pc := 9) (tgt := 15) d_La_until_9 (by decide) ?_
    refine zo_iconst (i := i_La_until) (pc := 15) (v := 0) d_La_until_15 (by decide) ?_
    refine zo_ireturn (i := i_La_until) (pc := 16) hq d_La_until_16 rfl (Nat.le_of_ble_eq_true rfl) (Nat.le_of_ble_eq_true rfl) ?_
    exact k0 c x rfl hx _ (h.setA _)
  · refine zw_throwV (i := i_La_until) (pc := 4) (hp := 12) (st := [.int 0, .ref lo]) (av := [.int j]) 9 rfl (zHp1 (r := []) ht (by decide) (by decide) (by decide) (ztb_of k_778 rfl) (ztb_of k_788 rfl)) m_Ho_until (ztb_of k_806 rfl) (ztb_of k_807 rfl) (ztb_of k_808 rfl) d_La_until_4 rfl h.at (Nat.le_of_ble_eq_true rfl) (Nat.le_of_ble_eq_true rfl) (Nat.le_of_ble_eq_true rfl) (Nat.le_of_ble_eq_true rfl) rfl (t_Ho_until_index hnt h hv) fun b => ?_
    refine zo_astore_n (i := i_La_until) (pc := 12) d_La_until_12 rfl (Nat.le_of_ble_eq_true rfl) ?_
    refine zo_iconst (i := i_La_until) (pc := 13) (v := 1) d_La_until_13 (by decide) ?_
    refine zo_ireturn (i := i_La_until) (pc := 14) hq d_La_until_14 rfl (Nat.le_of_ble_eq_true rfl) (Nat.le_of_ble_eq_true rfl) ?_
    exact k1 hv
abbrev i_La_outKind : zY := (y_La_outKind, b_La_outKind, 4, (some .int), 10, 1, 6)
theorem m_La_outKind : zMW i_La_outKind [(0, 9, 12, 52)] 3 := ⟨(ztb_of k_812 rfl), ztb_of k_0 rfl, ⟨by decide, by decide⟩, by decide +kernel, by decide⟩
theorem c_La_outKind {g : zG} {ws : va_W} {post : Option Value → va_W → Prop} (hnt : g.1.stackTraces = false) {A : Nat → Nat} {q : hT} {R : va_W} {lo : Nat} {fl : Nat → Int64} (h : hH g A q ((lo, .inl (g.2.2.1.2.2.1, 1, .inr (.inl fl))) :: R) ws) {j : Int32} (k0 : ∀ c : Nat, j = nI c → c < min q.2.1.1 12 → ∀ w, hH g A q ((lo, .inl (g.2.2.1.2.2.1, 1, .inr (.inl (vp_updL fl 0 (q.2.1.2.1 ((q.2.1.1 % 12 + 23 - c) % 12)).toInt64)))) :: R) w → post (some (.int 0)) w) (k1 : ¬ (¬ j < 0 ∧ j < nI (min q.2.1.1 12)) → post (some (.int 1)) ws) : zCW g i_La_outKind [(0, 9, 12, 52)] [.ref (A 0), .int j, .ref lo] ws post := by
  refine zCW.intro (by decide +kernel) rfl (Nat.le_of_ble_eq_true rfl) fun x0 hq ht => ?_
  refine zo_aload_n (i := i_La_outKind) (pc := 0) d_La_outKind_0 rfl rfl ?_
  refine zo_iconst (i := i_La_outKind) (pc := 1) (v := 0) d_La_outKind_1 (by decide) ?_
  refine zo_aload_n (i := i_La_outKind) (pc := 2) d_La_outKind_2 rfl rfl ?_
  refine zo_iload_n (i := i_La_outKind) (pc := 3) d_La_outKind_3 rfl ?_
  by_cases hv : ¬ j < 0 ∧ j < nI (min q.2.1.1 12)
  · obtain ⟨c, rfl, hc1, hc2⟩ := nI_ex hv.1
    have hlt : c < min q.2.1.1 12 := nI_ltN hc1 (by omega) hv.2
    refine zc_V1 (i := i_La_outKind) (pc := 4) 9 rfl m_Ho_outKind (ztb_of k_813 rfl) (ztb_of k_814 rfl) (ztb_of k_815 rfl) d_La_outKind_4 (Nat.le_of_ble_eq_true rfl) (Nat.le_of_ble_eq_true rfl) (Nat.le_of_ble_eq_true rfl) (Nat.le_of_ble_eq_true rfl) h.at (c_Ho_outKind h hlt ?_)
    refine zo_i2l (i := i_La_outKind) (pc := 7) d_La_outKind_7 ?_
    refine zo_lastore (i := i_La_outKind) (pc := 8) d_La_outKind_8 h.ans (by unfold vp_in; decide) ?_
    refine zo_goto (i := i_La_outKind) (pc := 9) (tgt := 15) d_La_outKind_9 (by decide) ?_
    refine zo_iconst (i := i_La_outKind) (pc := 15) (v := 0) d_La_outKind_15 (by decide) ?_
    refine zo_ireturn (i := i_La_outKind) (pc := 16) hq d_La_outKind_16 rfl (Nat.le_of_ble_eq_true rfl) (Nat.le_of_ble_eq_true rfl) ?_
    exact k0 c rfl hlt _ (h.setA _)
  · refine zw_throwV (i := i_La_outKind) (pc := 4) (hp := 12) (st := [.int 0, .ref lo]) (av := [.int j]) 9 rfl (zHp1 (r := []) ht (by decide) (by decide) (by decide) (ztb_of k_778 rfl) (ztb_of k_788 rfl)) m_Ho_outKind (ztb_of k_813 rfl) (ztb_of k_814 rfl) (ztb_of k_815 rfl) d_La_outKind_4 rfl h.at (Nat.le_of_ble_eq_true rfl) (Nat.le_of_ble_eq_true rfl) (Nat.le_of_ble_eq_true rfl) (Nat.le_of_ble_eq_true rfl) rfl (t_Ho_outKind_index hnt h hv) fun b => ?_
    refine zo_astore_n (i := i_La_outKind) (pc := 12) d_La_outKind_12 rfl (Nat.le_of_ble_eq_true rfl) ?_
    refine zo_iconst (i := i_La_outKind) (pc := 13) (v := 1) d_La_outKind_13 (by decide) ?_
    refine zo_ireturn (i := i_La_outKind) (pc := 14) hq d_La_outKind_14 rfl (Nat.le_of_ble_eq_true rfl) (Nat.le_of_ble_eq_true rfl) ?_
    exact k1 hv
abbrev i_La_outTo : zY := (y_La_outTo, b_La_outTo, 4, (some .int), 10, 1, 6)
theorem m_La_outTo : zMW i_La_outTo [(0, 9, 12, 52)] 3 := ⟨(ztb_of k_826 rfl), ztb_of k_0 rfl, ⟨by decide, by decide⟩, by decide +kernel, by decide⟩
theorem c_La_outTo {g : zG} {ws : va_W} {post : Option Value → va_W → Prop} (hnt : g.1.stackTraces = false) {A : Nat → Nat} {q : hT} {R : va_W} {lo : Nat} {fl : Nat → Int64} (h : hH g A q ((lo, .inl (g.2.2.1.2.2.1, 1, .inr (.inl fl))) :: R) ws) {j : Int32} (k0 : ∀ c : Nat, j = nI c → c < min q.2.1.1 12 → ∀ w, hH g A q ((lo, .inl (g.2.2.1.2.2.1, 1, .inr (.inl (vp_updL fl 0 (q.2.1.2.2.1 ((q.2.1.1 % 12 + 23 - c) % 12)).toInt64)))) :: R) w → post (some (.int 0)) w) (k1 : ¬ (¬ j < 0 ∧ j < nI (min q.2.1.1 12)) → post (some (.int 1)) ws) : zCW g i_La_outTo [(0, 9, 12, 52)] [.ref (A 0), .int j, .ref lo] ws post := by
  refine zCW.intro (by decide +kernel) rfl (Nat.le_of_ble_eq_true rfl) fun x0 hq ht => ?_
  refine zo_aload_n (i := i_La_outTo) (pc := 0) d_La_outTo_0 rfl rfl ?_
  refine zo_iconst (i := i_La_outTo) (pc := 1) (v := 0) d_La_outTo_1 (by decide) ?_
  refine zo_aload_n (i := i_La_outTo) (pc := 2) d_La_outTo_2 rfl rfl ?_
  refine zo_iload_n (i := i_La_outTo) (pc := 3) d_La_outTo_3 rfl ?_
  by_cases hv : ¬ j < 0 ∧ j < nI (min q.2.1.1 12)
  · obtain ⟨c, rfl, hc1, hc2⟩ := nI_ex hv.1
    have hlt : c < min q.2.1.1 12 := nI_ltN hc1 (by omega) hv.2
    refine zc_V1 (i := i_La_outTo) (pc := 4) 9 rfl m_Ho_outTo (ztb_of k_827 rfl) (ztb_of k_828 rfl) (ztb_of k_829 rfl) d_La_outTo_4 (Nat.le_of_ble_eq_true rfl) (Nat.le_of_ble_eq_true rfl) (Nat.le_of_ble_eq_true rfl) (Nat.le_of_ble_eq_true rfl) h.at (c_Ho_outTo h hlt ?_)
    refine zo_i2l (i := i_La_outTo) (pc := 7) d_La_outTo_7 ?_
    refine zo_lastore (i := i_La_outTo) (pc := 8) d_La_outTo_8 h.ans (by unfold vp_in; decide) ?_
    refine zo_goto (i := i_La_outTo) (pc := 9) (tgt := 15) d_La_outTo_9 (by decide) ?_
    refine zo_iconst (i := i_La_outTo) (pc := 15) (v := 0) d_La_outTo_15 (by decide) ?_
    refine zo_ireturn (i := i_La_outTo) (pc := 16) hq d_La_outTo_16 rfl (Nat.le_of_ble_eq_true rfl) (Nat.le_of_ble_eq_true rfl) ?_
    exact k0 c rfl hlt _ (h.setA _)
  · refine zw_throwV (i := i_La_outTo) (pc := 4) (hp := 12) (st := [.int 0, .ref lo]) (av := [.int j]) 9 rfl (zHp1 (r := []) ht (by decide) (by decide) (by decide) (ztb_of k_778 rfl) (ztb_of k_788 rfl)) m_Ho_outTo (ztb_of k_827 rfl) (ztb_of k_828 rfl) (ztb_of k_829 rfl) d_La_outTo_4 rfl h.at (Nat.le_of_ble_eq_true rfl) (Nat.le_of_ble_eq_true rfl) (Nat.le_of_ble_eq_true rfl) (Nat.le_of_ble_eq_true rfl) rfl (t_Ho_outTo_index hnt h hv) fun b => ?_
    refine zo_astore_n (i := i_La_outTo) (pc := 12) d_La_outTo_12 rfl (Nat.le_of_ble_eq_true rfl) ?_
    refine zo_iconst (i := i_La_outTo) (pc := 13) (v := 1) d_La_outTo_13 (by decide) ?_
    refine zo_ireturn (i := i_La_outTo) (pc := 14) hq d_La_outTo_14 rfl (Nat.le_of_ble_eq_true rfl) (Nat.le_of_ble_eq_true rfl) ?_
    exact k1 hv
abbrev i_La_outX : zY := (y_La_outX, b_La_outX, 4, (some .int), 10, 1, 6)
theorem m_La_outX : zMW i_La_outX [(0, 9, 12, 52)] 3 := ⟨(ztb_of k_833 rfl), ztb_of k_0 rfl, ⟨by decide, by decide⟩, by decide +kernel, by decide⟩
theorem c_La_outX {g : zG} {ws : va_W} {post : Option Value → va_W → Prop} (hnt : g.1.stackTraces = false) {A : Nat → Nat} {q : hT} {R : va_W} {lo : Nat} {fl : Nat → Int64} (h : hH g A q ((lo, .inl (g.2.2.1.2.2.1, 1, .inr (.inl fl))) :: R) ws) {j : Int32} (k0 : ∀ c : Nat, j = nI c → c < min q.2.1.1 12 → ∀ w, hH g A q ((lo, .inl (g.2.2.1.2.2.1, 1, .inr (.inl (vp_updL fl 0 (q.2.1.2.2.2 ((q.2.1.1 % 12 + 23 - c) % 12)).toInt64)))) :: R) w → post (some (.int 0)) w) (k1 : ¬ (¬ j < 0 ∧ j < nI (min q.2.1.1 12)) → post (some (.int 1)) ws) : zCW g i_La_outX [(0, 9, 12, 52)] [.ref (A 0), .int j, .ref lo] ws post := by
  refine zCW.intro (by decide +kernel) rfl (Nat.le_of_ble_eq_true rfl) fun x0 hq ht => ?_
  refine zo_aload_n (i := i_La_outX) (pc := 0) d_La_outX_0 rfl rfl ?_
  refine zo_iconst (i := i_La_outX) (pc := 1) (v := 0) d_La_outX_1 (by decide) ?_
  refine zo_aload_n (i := i_La_outX) (pc := 2) d_La_outX_2 rfl rfl ?_
  refine zo_iload_n (i := i_La_outX) (pc := 3) d_La_outX_3 rfl ?_
  by_cases hv : ¬ j < 0 ∧ j < nI (min q.2.1.1 12)
  · obtain ⟨c, rfl, hc1, hc2⟩ := nI_ex hv.1
    have hlt : c < min q.2.1.1 12 := nI_ltN hc1 (by omega) hv.2
    refine zc_V1 (i := i_La_outX) (pc := 4) 9 rfl m_Ho_outX (ztb_of k_834 rfl) (ztb_of k_835 rfl) (ztb_of k_836 rfl) d_La_outX_4 (Nat.le_of_ble_eq_true rfl) (Nat.le_of_ble_eq_true rfl) (Nat.le_of_ble_eq_true rfl) (Nat.le_of_ble_eq_true rfl) h.at (c_Ho_outX h hlt ?_)
    refine zo_i2l (i := i_La_outX) (pc := 7) d_La_outX_7 ?_
    refine zo_lastore (i := i_La_outX) (pc := 8) d_La_outX_8 h.ans (by unfold vp_in; decide) ?_
    refine zo_goto (i := i_La_outX) (pc := 9) (tgt := 15) d_La_outX_9 (by decide) ?_
    refine zo_iconst (i := i_La_outX) (pc := 15) (v := 0) d_La_outX_15 (by decide) ?_
    refine zo_ireturn (i := i_La_outX) (pc := 16) hq d_La_outX_16 rfl (Nat.le_of_ble_eq_true rfl) (Nat.le_of_ble_eq_true rfl) ?_
    exact k0 c rfl hlt _ (h.setA _)
  · refine zw_throwV (i := i_La_outX) (pc := 4) (hp := 12) (st := [.int 0, .ref lo]) (av := [.int j]) 9 rfl (zHp1 (r := []) ht (by decide) (by decide) (by decide) (ztb_of k_778 rfl) (ztb_of k_788 rfl)) m_Ho_outX (ztb_of k_834 rfl) (ztb_of k_835 rfl) (ztb_of k_836 rfl) d_La_outX_4 rfl h.at (Nat.le_of_ble_eq_true rfl) (Nat.le_of_ble_eq_true rfl) (Nat.le_of_ble_eq_true rfl) (Nat.le_of_ble_eq_true rfl) rfl (t_Ho_outX_index hnt h hv) fun b => ?_
    refine zo_astore_n (i := i_La_outX) (pc := 12) d_La_outX_12 rfl (Nat.le_of_ble_eq_true rfl) ?_
    refine zo_iconst (i := i_La_outX) (pc := 13) (v := 1) d_La_outX_13 (by decide) ?_
    refine zo_ireturn (i := i_La_outX) (pc := 14) hq d_La_outX_14 rfl (Nat.le_of_ble_eq_true rfl) (Nat.le_of_ble_eq_true rfl) ?_
    exact k1 hv
