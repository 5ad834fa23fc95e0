/-! The model by states: a neighbour is met, an own address is contradicted or renewed, a neighbour is a router or is not (walks by a program, gen74.py). -/
theorem l_meet {g : zG} {ws : va_W} {post : Option Value → va_W → Prop} {B : Nat → Nat} {q : hT} {t : Int32} {R : va_W} (h : mS g B q t R ws) {a n : Int32} {c : Nat} {dn : Bool} (hn : n ≠ 0) (hv : ∀ x ∈ q.2.2.2.1, nV c dn x) (hu : q.2.1.1 < 2147483647) (k : ∀ (i : Nat) (y : zND) (w : va_W), nbIx (lnT q a n).2.2.2.1 a i y → mS g B (lnT q a n) t R w → post (some (.int (nI i))) w) : zC g i_Mo_meet [.ref (B 0), .int a, .int n] ws post := by
  refine zC.intro (by decide +kernel) rfl (Nat.le_of_ble_eq_true rfl) fun x0 hq => ?_
  obtain ⟨m, F, hr, hs⟩ := h
  refine zo_aload_n (i := i_Mo_meet) (pc := 0) d_Mo_meet_0 rfl rfl ?_
  refine zo_iload_n (i := i_Mo_meet) (pc := 1) d_Mo_meet_1 rfl ?_
  refine zc_V1 (i := i_Mo_meet) (pc := 2) 10 rfl m_Mo_neighbourAt (ztb_of k_1012 rfl) (ztb_of k_1014 rfl) s_Mo_neighbourAt d_Mo_meet_2 (Nat.le_of_ble_eq_true rfl) (Nat.le_of_ble_eq_true rfl) (Nat.le_of_ble_eq_true rfl) (Nat.le_of_ble_eq_true rfl) (hs.get (t := 0) rfl) (l_nbAt ⟨_, _, hr, hs⟩ (fun j x hx hxa hf hset hno => ?_) (fun hf => ?_))
  · have hjl := len_of hx
    have hxv := hv x (List.mem_of_getElem? hx)
    have hix : nbIx q.2.2.2.1 a j x := ⟨hx, hxa, hno⟩
    obtain ⟨o19, o20, o21, o22, o23, o24, ho7⟩ := hr.nb hx
    refine zo_istore_n (i := i_Mo_meet) (pc := 5) d_Mo_meet_5 (Nat.le_of_ble_eq_true rfl) ?_
    refine zo_iload_n (i := i_Mo_meet) (pc := 6) d_Mo_meet_6 rfl ?_
    refine zo_if_ge (i := i_Mo_meet) (pc := 7) (tgt := 18) d_Mo_meet_7 (by decide) (fun h7 => ?_) (fun h7 => False.elim (by first | exact absurd h7 ((nI_pos' (by omega))) | exact absurd ((nI_pos' (by omega))) h7))
    refine zo_aload_n (i := i_Mo_meet) (pc := 18) d_Mo_meet_18 rfl rfl ?_
    refine zo_get (i := i_Mo_meet) (pc := 19) 10 20 rfl zok_Mo (Nat.le_of_ble_eq_true rfl) (ztb_of k_878 rfl) d_Mo_meet_19 (fun _ _ _ h => h) (hs.get (t := 0) rfl) rfl ?_
    refine zo_iload_n (i := i_Mo_meet) (pc := 22) d_Mo_meet_22 rfl ?_
    refine zo_iaload (i := i_Mo_meet) (pc := 23) d_Mo_meet_23 (hs.get (t := 10) rfl) (vp_in_nI (by omega) (by decide)) ?_
    refine zo_iload_n (i := i_Mo_meet) (pc := 24) d_Mo_meet_24 rfl ?_
    refine zo_icmp_eq (i := i_Mo_meet) (pc := 25) (tgt := 46) d_Mo_meet_25 (by decide) (fun h25 => ?_) (fun h25 => ?_)
    · refine zo_iload_n (i := i_Mo_meet) (pc := 46) d_Mo_meet_46 rfl ?_
      refine zo_ireturn (i := i_Mo_meet) (pc := 47) hq d_Mo_meet_47 rfl (Nat.le_of_ble_eq_true rfl) (Nat.le_of_ble_eq_true rfl) ?_
      rw [o20] at h25
      have h1 : ¬ x.2.2.1 = 1 := fun hh => hn (by rw [← h25]; exact hxv.2.2.1 hh)
      have he := lnT_same hf h1 h25
      refine k j x ws ?_ ?_
      · rw [he]; exact hix
      · rw [he]; exact ⟨_, _, hr, hs⟩
    · refine zo_aload_n (i := i_Mo_meet) (pc := 28) d_Mo_meet_28 rfl rfl ?_
      refine zo_get (i := i_Mo_meet) (pc := 29) 10 20 rfl zok_Mo (Nat.le_of_ble_eq_true rfl) (ztb_of k_878 rfl) d_Mo_meet_29 (fun _ _ _ h => h) (hs.get (t := 0) rfl) rfl ?_
      refine zo_iload_n (i := i_Mo_meet) (pc := 32) d_Mo_meet_32 rfl ?_
      refine zo_iload_n (i := i_Mo_meet) (pc := 33) d_Mo_meet_33 rfl ?_
      refine zh_iastore (i := i_Mo_meet) (pc := 34) d_Mo_meet_34 hs 10 rfl (vp_in_nI (by omega) (by decide)) fun ws hs => ?_
      refine zo_aload_n (i := i_Mo_meet) (pc := 35) d_Mo_meet_35 rfl rfl ?_
      refine zo_iload_n (i := i_Mo_meet) (pc := 36) d_Mo_meet_36 rfl ?_
      refine zo_iconst (i := i_Mo_meet) (pc := 37) (v := 3) d_Mo_meet_37 (by decide) ?_
      replace hs : zHas ws (moW g B m (mup F 20 (upd (F 20) (nI j).toNatClampNeg n)) ++ R) := hs
      rw [nI_clamp (show j < 2 ^ 31 by omega)] at hs
      have hr1 : mR (tN q (q.2.2.2.1.set j (x.1, n, x.2.2))) t m _ := hr.number (v := n) hx
      have hx1 : (tN q (q.2.2.2.1.set j (x.1, n, x.2.2))).2.2.2.1[j]? = some (x.1, n, x.2.2) := by
        show (q.2.2.2.1.set j (x.1, n, x.2.2))[j]? = _
        rw [List.getElem?_set, if_pos rfl, if_pos hjl]
      refine zc_V2 (i := i_Mo_meet) (pc := 38) 10 rfl m_Mo_turn (ztb_of k_984 rfl) (ztb_of k_986 rfl) s_Mo_turn d_Mo_meet_38 (Nat.le_of_ble_eq_true rfl) (Nat.le_of_ble_eq_true rfl) (Nat.le_of_ble_eq_true rfl) (Nat.le_of_ble_eq_true rfl) (hs.get (t := 0) rfl) (l_turn ⟨_, _, hr1, hs⟩ hx1 fun ws hS => ?_)
      have hx2 : (tN (tN q (q.2.2.2.1.set j (x.1, n, x.2.2))) ((tN q (q.2.2.2.1.set j (x.1, n, x.2.2))).2.2.2.1.set j (ndS (x.1, n, x.2.2) 3 q.1.2.1))).2.2.2.1[j]? = some (ndS (x.1, n, x.2.2) 3 q.1.2.1) := by
        show ((q.2.2.2.1.set j (x.1, n, x.2.2)).set j (ndS (x.1, n, x.2.2) 3 q.1.2.1))[j]? = _
        rw [List.getElem?_set, if_pos rfl, if_pos (by rw [List.length_set]; exact hjl)]
      obtain ⟨m2, F2, hr2, hs⟩ := hS
      refine zo_aload_n (i := i_Mo_meet) (pc := 41) d_Mo_meet_41 rfl rfl ?_
      refine zo_iload_n (i := i_Mo_meet) (pc := 42) d_Mo_meet_42 rfl ?_
      refine zc_V1 (i := i_Mo_meet) (pc := 43) 10 rfl m_Mo_release (ztb_of k_1020 rfl) (ztb_of k_1022 rfl) s_Mo_release d_Mo_meet_43 (Nat.le_of_ble_eq_true rfl) (Nat.le_of_ble_eq_true rfl) (Nat.le_of_ble_eq_true rfl) (Nat.le_of_ble_eq_true rfl) (hs.get (t := 0) rfl) (l_release ⟨_, _, hr2, hs⟩ (by show q.2.1.1 < _; omega) hx2 (by exact hxv.1) fun ws hS => ?_)
      refine zo_iload_n (i := i_Mo_meet) (pc := 46) d_Mo_meet_46 rfl ?_
      refine zo_ireturn (i := i_Mo_meet) (pc := 47) hq d_Mo_meet_47 rfl (Nat.le_of_ble_eq_true rfl) (Nat.le_of_ble_eq_true rfl) ?_
      rw [o20] at h25
      have he := lnT_new hix h25
      refine k j (lnX q.1.2.1 n x) ws ?_ ?_
      · rw [he]
        exact hix.upd ((swX_1 _ _).trans hxa)
      · rw [he]
        rw [show q.2.2.2.1.set j (lnX q.1.2.1 n x) = ((q.2.2.2.1.set j (x.1, n, x.2.2)).set j (ndS (x.1, n, x.2.2) 3 q.1.2.1)).set j (lnX q.1.2.1 n x) by rw [List.set_set, List.set_set]]
        exact hS
  · refine zo_istore_n (i := i_Mo_meet) (pc := 5) d_Mo_meet_5 (Nat.le_of_ble_eq_true rfl) ?_
    refine zo_iload_n (i := i_Mo_meet) (pc := 6) d_Mo_meet_6 rfl ?_
    refine zo_if_ge (i := i_Mo_meet) (pc := 7) (tgt := 18) d_Mo_meet_7 (by decide) (fun h7 => False.elim (by first | exact absurd h7 ((by decide)) | exact absurd ((by decide)) h7)) (fun h7 => ?_)
    refine zo_aload_n (i := i_Mo_meet) (pc := 10) d_Mo_meet_10 rfl rfl ?_
    refine zo_iload_n (i := i_Mo_meet) (pc := 11) d_Mo_meet_11 rfl ?_
    refine zo_iconst (i := i_Mo_meet) (pc := 12) (v := 3) d_Mo_meet_12 (by decide) ?_
    refine zo_iload_n (i := i_Mo_meet) (pc := 13) d_Mo_meet_13 rfl ?_
    refine zc_V3 (i := i_Mo_meet) (pc := 14) 10 rfl m_Mo_makeNeighbour (ztb_of k_1016 rfl) (ztb_of k_1018 rfl) s_Mo_makeNeighbour d_Mo_meet_14 (Nat.le_of_ble_eq_true rfl) (Nat.le_of_ble_eq_true rfl) (Nat.le_of_ble_eq_true rfl) (Nat.le_of_ble_eq_true rfl) (hs.get (t := 0) rfl) (l_makeNb ⟨_, _, hr, hs⟩ fun ws hS => ?_)
    refine zo_ireturn (i := i_Mo_meet) (pc := 17) hq d_Mo_meet_17 rfl (Nat.le_of_ble_eq_true rfl) (Nat.le_of_ble_eq_true rfl) ?_
    rw [← lnT_none hf] at hS
    refine k _ (a, n, 3, q.1.2.1, false, 0) ws ?_ hS
    rw [lnT_none hf]
    exact nbIx.new hf rfl
theorem l_contradict {g : zG} {ws : va_W} {post : Option Value → va_W → Prop} {B : Nat → Nat} {q : hT} {t : Int32} {R : va_W} (h : mS g B q t R ws) {j : Nat} {x : zOD} (hx : q.2.2.1[j]? = some x) (k : ∀ w, mS g B (tS (tO q (q.2.2.1.set j (oaS x 4))) (dupS q.1 x)) t R w → post none w) : zC g i_Mo_contradict [.ref (B 0), .int (nI j)] ws post := by
  refine zC.intro (by decide +kernel) rfl (Nat.le_of_ble_eq_true rfl) fun x0 hq => ?_
  obtain ⟨m, F, hr, hs⟩ := h
  obtain ⟨o13, o14, o15, o16, o17, ho6⟩ := hr.ow hx
  have hd3 := hr.1.2.2.2.1
  refine zo_aload_n (i := i_Mo_contradict) (pc := 0) d_Mo_contradict_0 rfl rfl ?_
  refine zo_get (i := i_Mo_contradict) (pc := 1) 10 14 rfl zok_Mo (Nat.le_of_ble_eq_true rfl) (ztb_of k_872 rfl) d_Mo_contradict_1 (fun _ _ _ h => h) (hs.get (t := 0) rfl) rfl ?_
  refine zo_iload_n (i := i_Mo_contradict) (pc := 4) d_Mo_contradict_4 rfl ?_
  refine zo_iconst (i := i_Mo_contradict) (pc := 5) (v := 4) d_Mo_contradict_5 (by decide) ?_
  refine zh_iastore (i := i_Mo_contradict) (pc := 6) d_Mo_contradict_6 hs 5 rfl (vp_in_nI (by omega) (by decide)) fun ws hs => ?_
  refine zo_aload_n (i := i_Mo_contradict) (pc := 7) d_Mo_contradict_7 rfl rfl ?_
  refine zo_aload_n (i := i_Mo_contradict) (pc := 8) d_Mo_contradict_8 rfl rfl ?_
  refine zo_get (i := i_Mo_contradict) (pc := 9) 10 3 rfl zok_Mo (Nat.le_of_ble_eq_true rfl) (ztb_of k_861 rfl) d_Mo_contradict_9 (fun _ _ _ h => h) (hs.get (t := 0) rfl) rfl ?_
  refine zo_if_ne (i := i_Mo_contradict) (pc := 12) (tgt := 28) d_Mo_contradict_12 (by decide) (fun h12 => ?_) (fun h12 => ?_)
  · refine zo_iconst (i := i_Mo_contradict) (pc := 28) (v := 1) d_Mo_contradict_28 (by decide) ?_
    refine zo_goto (i := i_Mo_contradict) (pc := 29) (tgt := 33) d_Mo_contradict_29 (by decide) ?_
    refine zh_put (i := i_Mo_contradict) (pc := 33) 10 3 rfl zok_Mo (Nat.le_of_ble_eq_true rfl) (ztb_of k_861 rfl) rfl d_Mo_contradict_33 (fun _ _ _ h => h) (t_Mo_ok 3 (Nat.le_of_ble_eq_true rfl)) rfl rfl hs 0 rfl (Nat.le_of_ble_eq_true rfl) fun ws hs => ?_
    refine zo_return (i := i_Mo_contradict) (pc := 36) hq d_Mo_contradict_36 rfl (Nat.le_of_ble_eq_true rfl) (Nat.le_of_ble_eq_true rfl) ?_
    replace hs : zHas ws (moW g B (mup m 3 1) (mup F 14 (upd (F 14) (nI j).toNatClampNeg 4)) ++ R) := hs
    rw [nI_clamp (show j < 2 ^ 31 by omega)] at hs
    obtain ⟨b0, b1, b2, b3, b4, b5, b6, b7⟩ := hr.1
    rw [hd3] at h12
    have hz : (q.1.2.2.2.2.2.2 || zlocal x.1) = true := by
      cases hdn : q.1.2.2.2.2.2.2
      · rw [hdn] at h12; exact absurd rfl h12
      · rfl
    refine k ws ⟨_, _, (hr.ownState (v := 4) hx).setS (m' := mup m 3 1) ⟨b0, b1, b2, ?_, b4, b5, b6, b7⟩ (fun k hk => mup_ne (by omega)), hs⟩
    show (1 : Int32) = zb (q.1.2.2.2.2.2.2 || zlocal x.1)
    rw [hz]
    rfl
  · refine zo_aload_n (i := i_Mo_contradict) (pc := 15) d_Mo_contradict_15 rfl rfl ?_
    refine zo_aload_n (i := i_Mo_contradict) (pc := 16) d_Mo_contradict_16 rfl rfl ?_
    refine zo_get (i := i_Mo_contradict) (pc := 17) 10 13 rfl zok_Mo (Nat.le_of_ble_eq_true rfl) (ztb_of k_871 rfl) d_Mo_contradict_17 (fun _ _ _ h => h) (hs.get (t := 0) rfl) rfl ?_
    refine zo_iload_n (i := i_Mo_contradict) (pc := 20) d_Mo_contradict_20 rfl ?_
    refine zo_iaload (i := i_Mo_contradict) (pc := 21) d_Mo_contradict_21 (hs.get (t := 4) rfl) (vp_in_nI (by omega) (by decide)) ?_
    refine zc_V1 (i := i_Mo_contradict) (pc := 22) 10 rfl m_Mo_isLocal (ztb_of k_1065 rfl) (ztb_of k_1067 rfl) s_Mo_isLocal d_Mo_contradict_22 (Nat.le_of_ble_eq_true rfl) (Nat.le_of_ble_eq_true rfl) (Nat.le_of_ble_eq_true rfl) (Nat.le_of_ble_eq_true rfl) (hs.get (t := 0) rfl) (c_Mo_isLocal ?_)
    refine zo_if_eq (i := i_Mo_contradict) (pc := 25) (tgt := 32) d_Mo_contradict_25 (by decide) (fun h25 => ?_) (fun h25 => ?_)
    · refine zo_iconst (i := i_Mo_contradict) (pc := 32) (v := 0) d_Mo_contradict_32 (by decide) ?_
      refine zh_put (i := i_Mo_contradict) (pc := 33) 10 3 rfl zok_Mo (Nat.le_of_ble_eq_true rfl) (ztb_of k_861 rfl) rfl d_Mo_contradict_33 (fun _ _ _ h => h) (t_Mo_ok 3 (Nat.le_of_ble_eq_true rfl)) rfl rfl hs 0 rfl (Nat.le_of_ble_eq_true rfl) fun ws hs => ?_
      refine zo_return (i := i_Mo_contradict) (pc := 36) hq d_Mo_contradict_36 rfl (Nat.le_of_ble_eq_true rfl) (Nat.le_of_ble_eq_true rfl) ?_
      replace hs : zHas ws (moW g B (mup m 3 0) (mup F 14 (upd (F 14) (nI j).toNatClampNeg 4)) ++ R) := hs
      rw [nI_clamp (show j < 2 ^ 31 by omega)] at hs
      obtain ⟨b0, b1, b2, b3, b4, b5, b6, b7⟩ := hr.1
      rw [hd3] at h12
      rw [o13] at h25
      have hz : (q.1.2.2.2.2.2.2 || zlocal x.1) = false := by
        cases hdn : q.1.2.2.2.2.2.2
        · cases hl : zlocal x.1
          · rfl
          · rw [hl] at h25; exact absurd h25 (by decide)
        · rw [hdn] at h12; exact absurd h12 (by decide)
      refine k ws ⟨_, _, (hr.ownState (v := 4) hx).setS (m' := mup m 3 0) ⟨b0, b1, b2, ?_, b4, b5, b6, b7⟩ (fun k hk => mup_ne (by omega)), hs⟩
      show (0 : Int32) = zb (q.1.2.2.2.2.2.2 || zlocal x.1)
      rw [hz]
      rfl
    · refine zo_iconst (i := i_Mo_contradict) (pc := 28) (v := 1) d_Mo_contradict_28 (by decide) ?_
      refine zo_goto (i := i_Mo_contradict) (pc := 29) (tgt := 33) d_Mo_contradict_29 (by decide) ?_
      refine zh_put (i := i_Mo_contradict) (pc := 33) 10 3 rfl zok_Mo (Nat.le_of_ble_eq_true rfl) (ztb_of k_861 rfl) rfl d_Mo_contradict_33 (fun _ _ _ h => h) (t_Mo_ok 3 (Nat.le_of_ble_eq_true rfl)) rfl rfl hs 0 rfl (Nat.le_of_ble_eq_true rfl) fun ws hs => ?_
      refine zo_return (i := i_Mo_contradict) (pc := 36) hq d_Mo_contradict_36 rfl (Nat.le_of_ble_eq_true rfl) (Nat.le_of_ble_eq_true rfl) ?_
      replace hs : zHas ws (moW g B (mup m 3 1) (mup F 14 (upd (F 14) (nI j).toNatClampNeg 4)) ++ R) := hs
      rw [nI_clamp (show j < 2 ^ 31 by omega)] at hs
      obtain ⟨b0, b1, b2, b3, b4, b5, b6, b7⟩ := hr.1
      rw [hd3] at h12
      rw [o13] at h25
      have hz : (q.1.2.2.2.2.2.2 || zlocal x.1) = true := by
        cases hl : zlocal x.1
        · rw [hl] at h25; exact absurd rfl h25
        · exact Bool.or_true _
      refine k ws ⟨_, _, (hr.ownState (v := 4) hx).setS (m' := mup m 3 1) ⟨b0, b1, b2, ?_, b4, b5, b6, b7⟩ (fun k hk => mup_ne (by omega)), hs⟩
      show (1 : Int32) = zb (q.1.2.2.2.2.2.2 || zlocal x.1)
      rw [hz]
      rfl
theorem l_route {g : zG} {ws : va_W} {post : Option Value → va_W → Prop} {B : Nat → Nat} {q : hT} {t : Int32} {R : va_W} (h : mS g B q t R ws) {j : Nat} {x : zND} {b : Bool} (hx : q.2.2.2.1[j]? = some x) (hn : nd q.2.2.2.2.1) (k : ∀ w, mS g B (tR (tN q (q.2.2.2.1.set j (ndR x b))) (rdrop q.2.2.2.2.1 x b)) t R w → post none w) : zC g i_Mo_route [.ref (B 0), .int (nI j), .int (zb b)] ws post := by
  refine zC.intro (by decide +kernel) rfl (Nat.le_of_ble_eq_true rfl) fun x0 hq => ?_
  obtain ⟨m, F, hr, hs⟩ := h
  obtain ⟨o19, o20, o21, o22, o23, o24, ho7⟩ := hr.nb hx
  refine zo_aload_n (i := i_Mo_route) (pc := 0) d_Mo_route_0 rfl rfl ?_
  refine zo_get (i := i_Mo_route) (pc := 1) 10 21 rfl zok_Mo (Nat.le_of_ble_eq_true rfl) (ztb_of k_879 rfl) d_Mo_route_1 (fun _ _ _ h => h) (hs.get (t := 0) rfl) rfl ?_
  refine zo_iload_n (i := i_Mo_route) (pc := 4) d_Mo_route_4 rfl ?_
  refine zo_zaload (i := i_Mo_route) (pc := 5) d_Mo_route_5 (hs.get (t := 11) rfl) (vp_in_nI (by omega) (by decide)) ?_
  refine zo_if_eq (i := i_Mo_route) (pc := 6) (tgt := 24) d_Mo_route_6 (by decide) (fun h6 => ?_) (fun h6 => ?_)
  · refine zo_aload_n (i := i_Mo_route) (pc := 24) d_Mo_route_24 rfl rfl ?_
    refine zo_get (i := i_Mo_route) (pc := 25) 10 21 rfl zok_Mo (Nat.le_of_ble_eq_true rfl) (ztb_of k_879 rfl) d_Mo_route_25 (fun _ _ _ h => h) (hs.get (t := 0) rfl) rfl ?_
    refine zo_iload_n (i := i_Mo_route) (pc := 28) d_Mo_route_28 rfl ?_
    refine zo_iload_n (i := i_Mo_route) (pc := 29) d_Mo_route_29 rfl ?_
    refine zh_zastore (i := i_Mo_route) (pc := 30) d_Mo_route_30 hs 11 rfl (vp_in_nI (by omega) (by decide)) fun ws hs => ?_
    refine zo_return (i := i_Mo_route) (pc := 31) hq d_Mo_route_31 rfl (Nat.le_of_ble_eq_true rfl) (Nat.le_of_ble_eq_true rfl) ?_
    rw [o21] at h6
    have hd : rdrop q.2.2.2.2.1 x b = q.2.2.2.2.1 := by
      unfold rdrop
      cases hb1 : x.2.2.2.2.1
      · rfl
      · rw [hb1] at h6; exact absurd h6 (by decide)
    replace hs : zHas ws (moW g B m (mup F 21 (upd (F 21) (nI j).toNatClampNeg (vp_nar .boolean (zb b)))) ++ R) := hs
    rw [nI_clamp (show j < 2 ^ 31 by omega), vnar_zb] at hs
    rw [hd] at k
    exact k ws ⟨_, _, hr.routing (b := b) hx rfl (vnar_zb b), hs⟩
  · refine zo_iload_n (i := i_Mo_route) (pc := 9) d_Mo_route_9 rfl ?_
    refine zo_if_ne (i := i_Mo_route) (pc := 10) (tgt := 24) d_Mo_route_10 (by decide) (fun h10 => ?_) (fun h10 => ?_)
    · refine zo_aload_n (i := i_Mo_route) (pc := 24) d_Mo_route_24 rfl rfl ?_
      refine zo_get (i := i_Mo_route) (pc := 25) 10 21 rfl zok_Mo (Nat.le_of_ble_eq_true rfl) (ztb_of k_879 rfl) d_Mo_route_25 (fun _ _ _ h => h) (hs.get (t := 0) rfl) rfl ?_
      refine zo_iload_n (i := i_Mo_route) (pc := 28) d_Mo_route_28 rfl ?_
      refine zo_iload_n (i := i_Mo_route) (pc := 29) d_Mo_route_29 rfl ?_
      refine zh_zastore (i := i_Mo_route) (pc := 30) d_Mo_route_30 hs 11 rfl (vp_in_nI (by omega) (by decide)) fun ws hs => ?_
      refine zo_return (i := i_Mo_route) (pc := 31) hq d_Mo_route_31 rfl (Nat.le_of_ble_eq_true rfl) (Nat.le_of_ble_eq_true rfl) ?_
      rw [o21] at h6
      have hd : rdrop q.2.2.2.2.1 x b = q.2.2.2.2.1 := by
        unfold rdrop
        cases b
        · exact absurd rfl h10
        · rw [if_neg (by simp)]
      replace hs : zHas ws (moW g B m (mup F 21 (upd (F 21) (nI j).toNatClampNeg (vp_nar .boolean (zb b)))) ++ R) := hs
      rw [nI_clamp (show j < 2 ^ 31 by omega), vnar_zb] at hs
      rw [hd] at k
      exact k ws ⟨_, _, hr.routing (b := b) hx rfl (vnar_zb b), hs⟩
    · refine zo_aload_n (i := i_Mo_route) (pc := 13) d_Mo_route_13 rfl rfl ?_
      refine zo_iconst (i := i_Mo_route) (pc := 14) (v := 0) d_Mo_route_14 (by decide) ?_
      refine zo_aload_n (i := i_Mo_route) (pc := 15) d_Mo_route_15 rfl rfl ?_
      refine zo_get (i := i_Mo_route) (pc := 16) 10 19 rfl zok_Mo (Nat.le_of_ble_eq_true rfl) (ztb_of k_877 rfl) d_Mo_route_16 (fun _ _ _ h => h) (hs.get (t := 0) rfl) rfl ?_
      refine zo_iload_n (i := i_Mo_route) (pc := 19) d_Mo_route_19 rfl ?_
      refine zo_iaload (i := i_Mo_route) (pc := 20) d_Mo_route_20 (hs.get (t := 9) rfl) (vp_in_nI (by omega) (by decide)) ?_
      rw [o19]
      refine zc_V2 (i := i_Mo_route) (pc := 21) 10 rfl m_Mo_leave (ztb_of k_1028 rfl) (ztb_of k_1030 rfl) s_Mo_leave d_Mo_route_21 (Nat.le_of_ble_eq_true rfl) (Nat.le_of_ble_eq_true rfl) (Nat.le_of_ble_eq_true rfl) (Nat.le_of_ble_eq_true rfl) (hs.get (t := 0) rfl) (l_leave (c := 0) ⟨_, _, hr, hs⟩ (by omega) hn fun ws hS => ?_)
      obtain ⟨m, F, hr, hs⟩ := hS
      refine zo_aload_n (i := i_Mo_route) (pc := 24) d_Mo_route_24 rfl rfl ?_
      refine zo_get (i := i_Mo_route) (pc := 25) 10 21 rfl zok_Mo (Nat.le_of_ble_eq_true rfl) (ztb_of k_879 rfl) d_Mo_route_25 (fun _ _ _ h => h) (hs.get (t := 0) rfl) rfl ?_
      refine zo_iload_n (i := i_Mo_route) (pc := 28) d_Mo_route_28 rfl ?_
      refine zo_iload_n (i := i_Mo_route) (pc := 29) d_Mo_route_29 rfl ?_
      refine zh_zastore (i := i_Mo_route) (pc := 30) d_Mo_route_30 hs 11 rfl (vp_in_nI (by omega) (by decide)) fun ws hs => ?_
      refine zo_return (i := i_Mo_route) (pc := 31) hq d_Mo_route_31 rfl (Nat.le_of_ble_eq_true rfl) (Nat.le_of_ble_eq_true rfl) ?_
      rw [o21] at h6
      have hd : rdrop q.2.2.2.2.1 x b = q.2.2.2.2.1.filter (fun e => !decide (e.1 = x.1)) := by
        unfold rdrop
        cases hb1 : x.2.2.2.2.1
        · rw [hb1] at h6; exact absurd rfl h6
        · cases b
          · rfl
          · exact absurd h10 (by decide)
      replace hs : zHas ws (moW g B m (mup F 21 (upd (F 21) (nI j).toNatClampNeg (vp_nar .boolean (zb b)))) ++ R) := hs
      rw [nI_clamp (show j < 2 ^ 31 by omega), vnar_zb] at hs
      rw [hd] at k
      exact k ws ⟨_, _, hr.routing (b := b) hx rfl (vnar_zb b), hs⟩
theorem l_renew {g : zG} {ws : va_W} {post : Option Value → va_W → Prop} {B : Nat → Nat} {q : hT} {t : Int32} {R : va_W} (h : mS g B q t R ws) {j : Nat} {x : zOD} {v p : Int32} {c : Nat} (hc : c < 1000000) (ht : q.1.2.1 = nI c) (hx : q.2.2.1[j]? = some x) (hxe : x.2.2.2.1 = 2147483647 ∨ x.2.2.2.1 < 2000000000) (hv : zwithin v 0 1000 = true) (hp : zwithin p 0 1000 = true) (k : ∀ w, mS g B (if x.2.2.1 = 4 then q else tO q (q.2.2.1.set j (oaR (nI c) v p x))) t R w → post none w) : zC g i_Mo_renew [.ref (B 0), .int (nI j), .int v, .int p] ws post := by
  refine zC.intro (by decide +kernel) rfl (Nat.le_of_ble_eq_true rfl) fun x0 hq => ?_
  obtain ⟨m, F, hr, hs⟩ := h
  obtain ⟨o13, o14, o15, o16, o17, ho6⟩ := hr.ow hx
  have hjl := len_of hx
  have hm2 : m 2 = nI c := hr.1.2.2.1.trans ht
  obtain ⟨f1, f2⟩ := left_lt hc hxe hv
  have ep := cv_end (end_ne hc hp)
  have ev := cv_end (end_ne hc hv)
  have e20 : cv (zend (nI c) 20) = nI c + 20 := by rw [cv_end (end_ne (v := 20) hc (by decide)), if_neg (by decide)]
  refine zo_aload_n (i := i_Mo_renew) (pc := 0) d_Mo_renew_0 rfl rfl ?_
  refine zo_get (i := i_Mo_renew) (pc := 1) 10 14 rfl zok_Mo (Nat.le_of_ble_eq_true rfl) (ztb_of k_872 rfl) d_Mo_renew_1 (fun _ _ _ h => h) (hs.get (t := 0) rfl) rfl ?_
  refine zo_iload_n (i := i_Mo_renew) (pc := 4) d_Mo_renew_4 rfl ?_
  refine zo_iaload (i := i_Mo_renew) (pc := 5) d_Mo_renew_5 (hs.get (t := 5) rfl) (vp_in_nI (by omega) (by decide)) ?_
  refine zo_iconst (i := i_Mo_renew) (pc := 6) (v := 4) d_Mo_renew_6 (by decide) ?_
  refine zo_icmp_ne (i := i_Mo_renew) (pc := 7) (tgt := 11) d_Mo_renew_7 (by decide) (fun h7 => ?_) (fun h7 => ?_)
  · refine zo_aload_n (i := i_Mo_renew) (pc := 11) d_Mo_renew_11 rfl rfl ?_
    refine zo_get (i := i_Mo_renew) (pc := 12) 10 16 rfl zok_Mo (Nat.le_of_ble_eq_true rfl) (ztb_of k_874 rfl) d_Mo_renew_12 (fun _ _ _ h => h) (hs.get (t := 0) rfl) rfl ?_
    refine zo_iload_n (i := i_Mo_renew) (pc := 15) d_Mo_renew_15 rfl ?_
    refine zo_aload_n (i := i_Mo_renew) (pc := 16) d_Mo_renew_16 rfl rfl ?_
    refine zo_iload_n (i := i_Mo_renew) (pc := 17) d_Mo_renew_17 rfl ?_
    refine zc_V1 (i := i_Mo_renew) (pc := 18) 10 rfl m_Mo_end (ztb_of k_848 rfl) (ztb_of k_850 rfl) s_Mo_end d_Mo_renew_18 (Nat.le_of_ble_eq_true rfl) (Nat.le_of_ble_eq_true rfl) (Nat.le_of_ble_eq_true rfl) (Nat.le_of_ble_eq_true rfl) (hs.get (t := 0) rfl) (c_Mo_end hs ?_)
    refine zh_iastore (i := i_Mo_renew) (pc := 21) d_Mo_renew_21 hs 7 rfl (vp_in_nI (by omega) (by decide)) fun ws hs => ?_
    refine zo_aload_n (i := i_Mo_renew) (pc := 22) d_Mo_renew_22 rfl rfl ?_
    refine zo_get (i := i_Mo_renew) (pc := 23) 10 14 rfl zok_Mo (Nat.le_of_ble_eq_true rfl) (ztb_of k_872 rfl) d_Mo_renew_23 (fun _ _ _ h => h) (hs.get (t := 0) rfl) rfl ?_
    refine zo_iload_n (i := i_Mo_renew) (pc := 26) d_Mo_renew_26 rfl ?_
    refine zo_iaload (i := i_Mo_renew) (pc := 27) d_Mo_renew_27 (hs.get (t := 5) rfl) (vp_in_nI (by omega) (by decide)) ?_
    refine zo_iconst (i := i_Mo_renew) (pc := 28) (v := 1) d_Mo_renew_28 (by decide) ?_
    refine zo_icmp_eq (i := i_Mo_renew) (pc := 29) (tgt := 47) d_Mo_renew_29 (by decide) (fun h29 => ?_) (fun h29 => ?_)
    · refine zo_aload_n (i := i_Mo_renew) (pc := 47) d_Mo_renew_47 rfl rfl ?_
      refine zo_get (i := i_Mo_renew) (pc := 48) 10 17 rfl zok_Mo (Nat.le_of_ble_eq_true rfl) (ztb_of k_875 rfl) d_Mo_renew_48 (fun _ _ _ h => h) (hs.get (t := 0) rfl) rfl ?_
      refine zo_iload_n (i := i_Mo_renew) (pc := 51) d_Mo_renew_51 rfl ?_
      refine zo_iaload (i := i_Mo_renew) (pc := 52) d_Mo_renew_52 (hs.get (t := 8) rfl) (vp_in_nI (by omega) (by decide)) ?_
      refine zo_aload_n (i := i_Mo_renew) (pc := 53) d_Mo_renew_53 rfl rfl ?_
      refine zo_get (i := i_Mo_renew) (pc := 54) 10 2 rfl zok_Mo (Nat.le_of_ble_eq_true rfl) (ztb_of k_860 rfl) d_Mo_renew_54 (fun _ _ _ h => h) (hs.get (t := 0) rfl) rfl ?_
      refine zo_isub (i := i_Mo_renew) (pc := 57) d_Mo_renew_57 ?_
      refine zo_istore (i := i_Mo_renew) (pc := 58) d_Mo_renew_58 (Nat.le_of_ble_eq_true rfl) ?_
      refine zo_iload_n (i := i_Mo_renew) (pc := 60) d_Mo_renew_60 rfl ?_
      refine zo_bipush (i := i_Mo_renew) (pc := 61) (v := 20) d_Mo_renew_61 (by decide) ?_
      refine zo_icmp_gt (i := i_Mo_renew) (pc := 63) (tgt := 72) d_Mo_renew_63 (by decide) (fun h63 => ?_) (fun h63 => ?_)
      · refine zo_aload_n (i := i_Mo_renew) (pc := 72) d_Mo_renew_72 rfl rfl ?_
        refine zo_get (i := i_Mo_renew) (pc := 73) 10 17 rfl zok_Mo (Nat.le_of_ble_eq_true rfl) (ztb_of k_875 rfl) d_Mo_renew_73 (fun _ _ _ h => h) (hs.get (t := 0) rfl) rfl ?_
        refine zo_iload_n (i := i_Mo_renew) (pc := 76) d_Mo_renew_76 rfl ?_
        refine zo_aload_n (i := i_Mo_renew) (pc := 77) d_Mo_renew_77 rfl rfl ?_
        refine zo_iload_n (i := i_Mo_renew) (pc := 78) d_Mo_renew_78 rfl ?_
        replace hs : zHas ws (moW g B m (mup F 16 (upd (F 16) (nI j).toNatClampNeg (if p = 1000 then 2000000000 else m 2 + p))) ++ R) := hs
        refine zc_V1 (i := i_Mo_renew) (pc := 79) 10 rfl m_Mo_end (ztb_of k_848 rfl) (ztb_of k_850 rfl) s_Mo_end d_Mo_renew_79 (Nat.le_of_ble_eq_true rfl) (Nat.le_of_ble_eq_true rfl) (Nat.le_of_ble_eq_true rfl) (Nat.le_of_ble_eq_true rfl) (hs.get (t := 0) rfl) (c_Mo_end hs ?_)
        refine zh_iastore (i := i_Mo_renew) (pc := 82) d_Mo_renew_82 hs 8 rfl (vp_in_nI (by omega) (by decide)) fun ws hs => ?_
        refine zo_goto (i := i_Mo_renew) (pc := 83) (tgt := 106) d_Mo_renew_83 (by decide) ?_
        refine zo_return (i := i_Mo_renew) (pc := 106) hq d_Mo_renew_106 rfl (Nat.le_of_ble_eq_true rfl) (Nat.le_of_ble_eq_true rfl) ?_
        rw [o14] at h7 h29
        rw [if_neg h7] at k
        replace hs : zHas ws (moW g B m (mup (mup F 16 (upd (F 16) (nI j).toNatClampNeg (if p = 1000 then 2000000000 else m 2 + p))) 17 (upd (F 17) (nI j).toNatClampNeg (if v = 1000 then 2000000000 else m 2 + v))) ++ R) := hs
        simp only [nI_clamp (show j < 2 ^ 31 by omega)] at hs
        rw [hm2, ← ep] at hs
        rw [← ev] at hs
        have hs1 : (if x.2.2.1 = 1 then x.2.2.1 else if p = 0 then 3 else 2) = x.2.2.1 := by
          rw [if_pos h29]
        have hs2 : (if 20 < v ∨ x.2.2.2.1 - nI c < v then zend (nI c) v else if 20 < x.2.2.2.1 - nI c then zend (nI c) 20 else x.2.2.2.1) = zend (nI c) v := by
          rw [if_pos (.inl h63)]
        have hy : oaR (nI c) v p x = (x.1, x.2.1, x.2.2.1, zend (nI c) v, zend (nI c) p) := by
          unfold oaR
          simp only
          rw [hs1, hs2]
        rw [hy] at k
        obtain ⟨g0, g1, g2, g3, g4, g5, g6⟩ := hr.2.2.1
        refine k ws ⟨m, _, ?_, hs⟩
        exact hr.setO ⟨by rw [List.length_set]; exact g0, by rw [List.length_set]; exact g1, g2.keep hx rfl, g3.keep hx rfl, g4.keep hx rfl, g5.set rfl, g6.set rfl⟩ (fun k hk => rfl) (fun k hk => by repeat rw [mup_ne (by omega)])
      · refine zo_iload_n (i := i_Mo_renew) (pc := 66) d_Mo_renew_66 rfl ?_
        refine zo_iload (i := i_Mo_renew) (pc := 67) d_Mo_renew_67 rfl ?_
        refine zo_icmp_le (i := i_Mo_renew) (pc := 69) (tgt := 86) d_Mo_renew_69 (by decide) (fun h69 => ?_) (fun h69 => ?_)
        · refine zo_iload (i := i_Mo_renew) (pc := 86) d_Mo_renew_86 rfl ?_
          refine zo_bipush (i := i_Mo_renew) (pc := 88) (v := 20) d_Mo_renew_88 (by decide) ?_
          refine zo_icmp_le (i := i_Mo_renew) (pc := 90) (tgt := 106) d_Mo_renew_90 (by decide) (fun h90 => ?_) (fun h90 => ?_)
          · refine zo_return (i := i_Mo_renew) (pc := 106) hq d_Mo_renew_106 rfl (Nat.le_of_ble_eq_true rfl) (Nat.le_of_ble_eq_true rfl) ?_
            rw [o14] at h7 h29
            rw [if_neg h7] at k
            replace hs : zHas ws (moW g B m (mup F 16 (upd (F 16) (nI j).toNatClampNeg (if p = 1000 then 2000000000 else m 2 + p))) ++ R) := hs
            simp only [nI_clamp (show j < 2 ^ 31 by omega)] at hs
            rw [hm2, ← ep] at hs
            rw [o17, hm2] at h69
            rw [o17, hm2] at h90
            have hs1 : (if x.2.2.1 = 1 then x.2.2.1 else if p = 0 then 3 else 2) = x.2.2.1 := by
              rw [if_pos h29]
            have hs2 : (if 20 < v ∨ x.2.2.2.1 - nI c < v then zend (nI c) v else if 20 < x.2.2.2.1 - nI c then zend (nI c) 20 else x.2.2.2.1) = x.2.2.2.1 := by
              rw [if_neg (fun hh => hh.elim h63 (fun h2 => absurd (f1.mpr h2) (Int32.not_lt.mpr h69))), if_neg (fun h2 => absurd (f2.mpr h2) (Int32.not_lt.mpr h90))]
            have hy : oaR (nI c) v p x = (x.1, x.2.1, x.2.2.1, x.2.2.2.1, zend (nI c) p) := by
              unfold oaR
              simp only
              rw [hs1, hs2]
            rw [hy] at k
            obtain ⟨g0, g1, g2, g3, g4, g5, g6⟩ := hr.2.2.1
            refine k ws ⟨m, _, ?_, hs⟩
            exact hr.setO ⟨by rw [List.length_set]; exact g0, by rw [List.length_set]; exact g1, g2.keep hx rfl, g3.keep hx rfl, g4.keep hx rfl, g5.set rfl, g6.keep hx rfl⟩ (fun k hk => rfl) (fun k hk => by repeat rw [mup_ne (by omega)])
          · refine zo_aload_n (i := i_Mo_renew) (pc := 93) d_Mo_renew_93 rfl rfl ?_
            refine zo_get (i := i_Mo_renew) (pc := 94) 10 17 rfl zok_Mo (Nat.le_of_ble_eq_true rfl) (ztb_of k_875 rfl) d_Mo_renew_94 (fun _ _ _ h => h) (hs.get (t := 0) rfl) rfl ?_
            refine zo_iload_n (i := i_Mo_renew) (pc := 97) d_Mo_renew_97 rfl ?_
            refine zo_aload_n (i := i_Mo_renew) (pc := 98) d_Mo_renew_98 rfl rfl ?_
            refine zo_get (i := i_Mo_renew) (pc := 99) 10 2 rfl zok_Mo (Nat.le_of_ble_eq_true rfl) (ztb_of k_860 rfl) d_Mo_renew_99 (fun _ _ _ h => h) (hs.get (t := 0) rfl) rfl ?_
            refine zo_bipush (i := i_Mo_renew) (pc := 102) (v := 20) d_Mo_renew_102 (by decide) ?_
            refine zo_iadd (i := i_Mo_renew) (pc := 104) d_Mo_renew_104 ?_
            refine zh_iastore (i := i_Mo_renew) (pc := 105) d_Mo_renew_105 hs 8 rfl (vp_in_nI (by omega) (by decide)) fun ws hs => ?_
            refine zo_return (i := i_Mo_renew) (pc := 106) hq d_Mo_renew_106 rfl (Nat.le_of_ble_eq_true rfl) (Nat.le_of_ble_eq_true rfl) ?_
            rw [o14] at h7 h29
            rw [if_neg h7] at k
            replace hs : zHas ws (moW g B m (mup (mup F 16 (upd (F 16) (nI j).toNatClampNeg (if p = 1000 then 2000000000 else m 2 + p))) 17 (upd (F 17) (nI j).toNatClampNeg (m 2 + 20))) ++ R) := hs
            simp only [nI_clamp (show j < 2 ^ 31 by omega)] at hs
            rw [hm2, ← ep] at hs
            rw [← e20] at hs
            rw [o17, hm2] at h69
            rw [o17, hm2] at h90
            have hs1 : (if x.2.2.1 = 1 then x.2.2.1 else if p = 0 then 3 else 2) = x.2.2.1 := by
              rw [if_pos h29]
            have hs2 : (if 20 < v ∨ x.2.2.2.1 - nI c < v then zend (nI c) v else if 20 < x.2.2.2.1 - nI c then zend (nI c) 20 else x.2.2.2.1) = zend (nI c) 20 := by
              rw [if_neg (fun hh => hh.elim h63 (fun h2 => absurd (f1.mpr h2) (Int32.not_lt.mpr h69))), if_pos (f2.mp (Int32.not_le.mp h90))]
            have hy : oaR (nI c) v p x = (x.1, x.2.1, x.2.2.1, zend (nI c) 20, zend (nI c) p) := by
              unfold oaR
              simp only
              rw [hs1, hs2]
            rw [hy] at k
            obtain ⟨g0, g1, g2, g3, g4, g5, g6⟩ := hr.2.2.1
            refine k ws ⟨m, _, ?_, hs⟩
            exact hr.setO ⟨by rw [List.length_set]; exact g0, by rw [List.length_set]; exact g1, g2.keep hx rfl, g3.keep hx rfl, g4.keep hx rfl, g5.set rfl, g6.set rfl⟩ (fun k hk => rfl) (fun k hk => by repeat rw [mup_ne (by omega)])
        · refine zo_aload_n (i := i_Mo_renew) (pc := 72) d_Mo_renew_72 rfl rfl ?_
          refine zo_get (i := i_Mo_renew) (pc := 73) 10 17 rfl zok_Mo (Nat.le_of_ble_eq_true rfl) (ztb_of k_875 rfl) d_Mo_renew_73 (fun _ _ _ h => h) (hs.get (t := 0) rfl) rfl ?_
          refine zo_iload_n (i := i_Mo_renew) (pc := 76) d_Mo_renew_76 rfl ?_
          refine zo_aload_n (i := i_Mo_renew) (pc := 77) d_Mo_renew_77 rfl rfl ?_
          refine zo_iload_n (i := i_Mo_renew) (pc := 78) d_Mo_renew_78 rfl ?_
          replace hs : zHas ws (moW g B m (mup F 16 (upd (F 16) (nI j).toNatClampNeg (if p = 1000 then 2000000000 else m 2 + p))) ++ R) := hs
          refine zc_V1 (i := i_Mo_renew) (pc := 79) 10 rfl m_Mo_end (ztb_of k_848 rfl) (ztb_of k_850 rfl) s_Mo_end d_Mo_renew_79 (Nat.le_of_ble_eq_true rfl) (Nat.le_of_ble_eq_true rfl) (Nat.le_of_ble_eq_true rfl) (Nat.le_of_ble_eq_true rfl) (hs.get (t := 0) rfl) (c_Mo_end hs ?_)
          refine zh_iastore (i := i_Mo_renew) (pc := 82) d_Mo_renew_82 hs 8 rfl (vp_in_nI (by omega) (by decide)) fun ws hs => ?_
          refine zo_goto (i := i_Mo_renew) (pc := 83) (tgt := 106) d_Mo_renew_83 (by decide) ?_
          refine zo_return (i := i_Mo_renew) (pc := 106) hq d_Mo_renew_106 rfl (Nat.le_of_ble_eq_true rfl) (Nat.le_of_ble_eq_true rfl) ?_
          rw [o14] at h7 h29
          rw [if_neg h7] at k
          replace hs : zHas ws (moW g B m (mup (mup F 16 (upd (F 16) (nI j).toNatClampNeg (if p = 1000 then 2000000000 else m 2 + p))) 17 (upd (F 17) (nI j).toNatClampNeg (if v = 1000 then 2000000000 else m 2 + v))) ++ R) := hs
          simp only [nI_clamp (show j < 2 ^ 31 by omega)] at hs
          rw [hm2, ← ep] at hs
          rw [← ev] at hs
          rw [o17, hm2] at h69
          have hs1 : (if x.2.2.1 = 1 then x.2.2.1 else if p = 0 then 3 else 2) = x.2.2.1 := by
            rw [if_pos h29]
          have hs2 : (if 20 < v ∨ x.2.2.2.1 - nI c < v then zend (nI c) v else if 20 < x.2.2.2.1 - nI c then zend (nI c) 20 else x.2.2.2.1) = zend (nI c) v := by
            rw [if_pos (.inr (f1.mp (Int32.not_le.mp h69)))]
          have hy : oaR (nI c) v p x = (x.1, x.2.1, x.2.2.1, zend (nI c) v, zend (nI c) p) := by
            unfold oaR
            simp only
            rw [hs1, hs2]
          rw [hy] at k
          obtain ⟨g0, g1, g2, g3, g4, g5, g6⟩ := hr.2.2.1
          refine k ws ⟨m, _, ?_, hs⟩
          exact hr.setO ⟨by rw [List.length_set]; exact g0, by rw [List.length_set]; exact g1, g2.keep hx rfl, g3.keep hx rfl, g4.keep hx rfl, g5.set rfl, g6.set rfl⟩ (fun k hk => rfl) (fun k hk => by repeat rw [mup_ne (by omega)])
    · refine zo_aload_n (i := i_Mo_renew) (pc := 32) d_Mo_renew_32 rfl rfl ?_
      refine zo_get (i := i_Mo_renew) (pc := 33) 10 14 rfl zok_Mo (Nat.le_of_ble_eq_true rfl) (ztb_of k_872 rfl) d_Mo_renew_33 (fun _ _ _ h => h) (hs.get (t := 0) rfl) rfl ?_
      refine zo_iload_n (i := i_Mo_renew) (pc := 36) d_Mo_renew_36 rfl ?_
      refine zo_iload_n (i := i_Mo_renew) (pc := 37) d_Mo_renew_37 rfl ?_
      refine zo_if_ne (i := i_Mo_renew) (pc := 38) (tgt := 45) d_Mo_renew_38 (by decide) (fun h38 => ?_) (fun h38 => ?_)
      · refine zo_iconst (i := i_Mo_renew) (pc := 45) (v := 2) d_Mo_renew_45 (by decide) ?_
        refine zh_iastore (i := i_Mo_renew) (pc := 46) d_Mo_renew_46 hs 5 rfl (vp_in_nI (by omega) (by decide)) fun ws hs => ?_
        refine zo_aload_n (i := i_Mo_renew) (pc := 47) d_Mo_renew_47 rfl rfl ?_
        refine zo_get (i := i_Mo_renew) (pc := 48) 10 17 rfl zok_Mo (Nat.le_of_ble_eq_true rfl) (ztb_of k_875 rfl) d_Mo_renew_48 (fun _ _ _ h => h) (hs.get (t := 0) rfl) rfl ?_
        refine zo_iload_n (i := i_Mo_renew) (pc := 51) d_Mo_renew_51 rfl ?_
        refine zo_iaload (i := i_Mo_renew) (pc := 52) d_Mo_renew_52 (hs.get (t := 8) rfl) (vp_in_nI (by omega) (by decide)) ?_
        refine zo_aload_n (i := i_Mo_renew) (pc := 53) d_Mo_renew_53 rfl rfl ?_
        refine zo_get (i := i_Mo_renew) (pc := 54) 10 2 rfl zok_Mo (Nat.le_of_ble_eq_true rfl) (ztb_of k_860 rfl) d_Mo_renew_54 (fun _ _ _ h => h) (hs.get (t := 0) rfl) rfl ?_
        refine zo_isub (i := i_Mo_renew) (pc := 57) d_Mo_renew_57 ?_
        refine zo_istore (i := i_Mo_renew) (pc := 58) d_Mo_renew_58 (Nat.le_of_ble_eq_true rfl) ?_
        refine zo_iload_n (i := i_Mo_renew) (pc := 60) d_Mo_renew_60 rfl ?_
        refine zo_bipush (i := i_Mo_renew) (pc := 61) (v := 20) d_Mo_renew_61 (by decide) ?_
        refine zo_icmp_gt (i := i_Mo_renew) (pc := 63) (tgt := 72) d_Mo_renew_63 (by decide) (fun h63 => ?_) (fun h63 => ?_)
        · refine zo_aload_n (i := i_Mo_renew) (pc := 72) d_Mo_renew_72 rfl rfl ?_
          refine zo_get (i := i_Mo_renew) (pc := 73) 10 17 rfl zok_Mo (Nat.le_of_ble_eq_true rfl) (ztb_of k_875 rfl) d_Mo_renew_73 (fun _ _ _ h => h) (hs.get (t := 0) rfl) rfl ?_
          refine zo_iload_n (i := i_Mo_renew) (pc := 76) d_Mo_renew_76 rfl ?_
          refine zo_aload_n (i := i_Mo_renew) (pc := 77) d_Mo_renew_77 rfl rfl ?_
          refine zo_iload_n (i := i_Mo_renew) (pc := 78) d_Mo_renew_78 rfl ?_
          replace hs : zHas ws (moW g B m (mup (mup F 16 (upd (F 16) (nI j).toNatClampNeg (if p = 1000 then 2000000000 else m 2 + p))) 14 (upd (F 14) (nI j).toNatClampNeg 2)) ++ R) := hs
          refine zc_V1 (i := i_Mo_renew) (pc := 79) 10 rfl m_Mo_end (ztb_of k_848 rfl) (ztb_of k_850 rfl) s_Mo_end d_Mo_renew_79 (Nat.le_of_ble_eq_true rfl) (Nat.le_of_ble_eq_true rfl) (Nat.le_of_ble_eq_true rfl) (Nat.le_of_ble_eq_true rfl) (hs.get (t := 0) rfl) (c_Mo_end hs ?_)
          refine zh_iastore (i := i_Mo_renew) (pc := 82) d_Mo_renew_82 hs 8 rfl (vp_in_nI (by omega) (by decide)) fun ws hs => ?_
          refine zo_goto (i := i_Mo_renew) (pc := 83) (tgt := 106) d_Mo_renew_83 (by decide) ?_
          refine zo_return (i := i_Mo_renew) (pc := 106) hq d_Mo_renew_106 rfl (Nat.le_of_ble_eq_true rfl) (Nat.le_of_ble_eq_true rfl) ?_
          rw [o14] at h7 h29
          rw [if_neg h7] at k
          replace hs : zHas ws (moW g B m (mup (mup (mup F 16 (upd (F 16) (nI j).toNatClampNeg (if p = 1000 then 2000000000 else m 2 + p))) 14 (upd (F 14) (nI j).toNatClampNeg 2)) 17 (upd (F 17) (nI j).toNatClampNeg (if v = 1000 then 2000000000 else m 2 + v))) ++ R) := hs
          simp only [nI_clamp (show j < 2 ^ 31 by omega)] at hs
          rw [hm2, ← ep] at hs
          rw [← ev] at hs
          have hs1 : (if x.2.2.1 = 1 then x.2.2.1 else if p = 0 then 3 else 2) = 2 := by
            rw [if_neg h29, if_neg h38]
          have hs2 : (if 20 < v ∨ x.2.2.2.1 - nI c < v then zend (nI c) v else if 20 < x.2.2.2.1 - nI c then zend (nI c) 20 else x.2.2.2.1) = zend (nI c) v := by
            rw [if_pos (.inl h63)]
          have hy : oaR (nI c) v p x = (x.1, x.2.1, 2, zend (nI c) v, zend (nI c) p) := by
            unfold oaR
            simp only
            rw [hs1, hs2]
          rw [hy] at k
          obtain ⟨g0, g1, g2, g3, g4, g5, g6⟩ := hr.2.2.1
          refine k ws ⟨m, _, ?_, hs⟩
          exact hr.setO ⟨by rw [List.length_set]; exact g0, by rw [List.length_set]; exact g1, g2.keep hx rfl, g3.set rfl, g4.keep hx rfl, g5.set rfl, g6.set rfl⟩ (fun k hk => rfl) (fun k hk => by repeat rw [mup_ne (by omega)])
        · refine zo_iload_n (i := i_Mo_renew) (pc := 66) d_Mo_renew_66 rfl ?_
          refine zo_iload (i := i_Mo_renew) (pc := 67) d_Mo_renew_67 rfl ?_
          refine zo_icmp_le (i := i_Mo_renew) (pc := 69) (tgt := 86) d_Mo_renew_69 (by decide) (fun h69 => ?_) (fun h69 => ?_)
          · refine zo_iload (i := i_Mo_renew) (pc := 86) d_Mo_renew_86 rfl ?_
            refine zo_bipush (i := i_Mo_renew) (pc := 88) (v := 20) d_Mo_renew_88 (by decide) ?_
            refine zo_icmp_le (i := i_Mo_renew) (pc := 90) (tgt := 106) d_Mo_renew_90 (by decide) (fun h90 => ?_) (fun h90 => ?_)
            · refine zo_return (i := i_Mo_renew) (pc := 106) hq d_Mo_renew_106 rfl (Nat.le_of_ble_eq_true rfl) (Nat.le_of_ble_eq_true rfl) ?_
              rw [o14] at h7 h29
              rw [if_neg h7] at k
              replace hs : zHas ws (moW g B m (mup (mup F 16 (upd (F 16) (nI j).toNatClampNeg (if p = 1000 then 2000000000 else m 2 + p))) 14 (upd (F 14) (nI j).toNatClampNeg 2)) ++ R) := hs
              simp only [nI_clamp (show j < 2 ^ 31 by omega)] at hs
              rw [hm2, ← ep] at hs
              rw [o17, hm2] at h69
              rw [o17, hm2] at h90
              have hs1 : (if x.2.2.1 = 1 then x.2.2.1 else if p = 0 then 3 else 2) = 2 := by
                rw [if_neg h29, if_neg h38]
              have hs2 : (if 20 < v ∨ x.2.2.2.1 - nI c < v then zend (nI c) v else if 20 < x.2.2.2.1 - nI c then zend (nI c) 20 else x.2.2.2.1) = x.2.2.2.1 := by
                rw [if_neg (fun hh => hh.elim h63 (fun h2 => absurd (f1.mpr h2) (Int32.not_lt.mpr h69))), if_neg (fun h2 => absurd (f2.mpr h2) (Int32.not_lt.mpr h90))]
              have hy : oaR (nI c) v p x = (x.1, x.2.1, 2, x.2.2.2.1, zend (nI c) p) := by
                unfold oaR
                simp only
                rw [hs1, hs2]
              rw [hy] at k
              obtain ⟨g0, g1, g2, g3, g4, g5, g6⟩ := hr.2.2.1
              refine k ws ⟨m, _, ?_, hs⟩
              exact hr.setO ⟨by rw [List.length_set]; exact g0, by rw [List.length_set]; exact g1, g2.keep hx rfl, g3.set rfl, g4.keep hx rfl, g5.set rfl, g6.keep hx rfl⟩ (fun k hk => rfl) (fun k hk => by repeat rw [mup_ne (by omega)])
            · refine zo_aload_n (i := i_Mo_renew) (pc := 93) d_Mo_renew_93 rfl rfl ?_
              refine zo_get (i := i_Mo_renew) (pc := 94) 10 17 rfl zok_Mo (Nat.le_of_ble_eq_true rfl) (ztb_of k_875 rfl) d_Mo_renew_94 (fun _ _ _ h => h) (hs.get (t := 0) rfl) rfl ?_
              refine zo_iload_n (i := i_Mo_renew) (pc := 97) d_Mo_renew_97 rfl ?_
              refine zo_aload_n (i := i_Mo_renew) (pc := 98) d_Mo_renew_98 rfl rfl ?_
              refine zo_get (i := i_Mo_renew) (pc := 99) 10 2 rfl zok_Mo (Nat.le_of_ble_eq_true rfl) (ztb_of k_860 rfl) d_Mo_renew_99 (fun _ _ _ h => h) (hs.get (t := 0) rfl) rfl ?_
              refine zo_bipush (i := i_Mo_renew) (pc := 102) (v := 20) d_Mo_renew_102 (by decide) ?_
              refine zo_iadd (i := i_Mo_renew) (pc := 104) d_Mo_renew_104 ?_
              refine zh_iastore (i := i_Mo_renew) (pc := 105) d_Mo_renew_105 hs 8 rfl (vp_in_nI (by omega) (by decide)) fun ws hs => ?_
              refine zo_return (i := i_Mo_renew) (pc := 106) hq d_Mo_renew_106 rfl (Nat.le_of_ble_eq_true rfl) (Nat.le_of_ble_eq_true rfl) ?_
              rw [o14] at h7 h29
              rw [if_neg h7] at k
              replace hs : zHas ws (moW g B m (mup (mup (mup F 16 (upd (F 16) (nI j).toNatClampNeg (if p = 1000 then 2000000000 else m 2 + p))) 14 (upd (F 14) (nI j).toNatClampNeg 2)) 17 (upd (F 17) (nI j).toNatClampNeg (m 2 + 20))) ++ R) := hs
              simp only [nI_clamp (show j < 2 ^ 31 by omega)] at hs
              rw [hm2, ← ep] at hs
              rw [← e20] at hs
              rw [o17, hm2] at h69
              rw [o17, hm2] at h90
              have hs1 : (if x.2.2.1 = 1 then x.2.2.1 else if p = 0 then 3 else 2) = 2 := by
                rw [if_neg h29, if_neg h38]
              have hs2 : (if 20 < v ∨ x.2.2.2.1 - nI c < v then zend (nI c) v else if 20 < x.2.2.2.1 - nI c then zend (nI c) 20 else x.2.2.2.1) = zend (nI c) 20 := by
                rw [if_neg (fun hh => hh.elim h63 (fun h2 => absurd (f1.mpr h2) (Int32.not_lt.mpr h69))), if_pos (f2.mp (Int32.not_le.mp h90))]
              have hy : oaR (nI c) v p x = (x.1, x.2.1, 2, zend (nI c) 20, zend (nI c) p) := by
                unfold oaR
                simp only
                rw [hs1, hs2]
              rw [hy] at k
              obtain ⟨g0, g1, g2, g3, g4, g5, g6⟩ := hr.2.2.1
              refine k ws ⟨m, _, ?_, hs⟩
              exact hr.setO ⟨by rw [List.length_set]; exact g0, by rw [List.length_set]; exact g1, g2.keep hx rfl, g3.set rfl, g4.keep hx rfl, g5.set rfl, g6.set rfl⟩ (fun k hk => rfl) (fun k hk => by repeat rw [mup_ne (by omega)])
          · refine zo_aload_n (i := i_Mo_renew) (pc := 72) d_Mo_renew_72 rfl rfl ?_
            refine zo_get (i := i_Mo_renew) (pc := 73) 10 17 rfl zok_Mo (Nat.le_of_ble_eq_true rfl) (ztb_of k_875 rfl) d_Mo_renew_73 (fun _ _ _ h => h) (hs.get (t := 0) rfl) rfl ?_
            refine zo_iload_n (i := i_Mo_renew) (pc := 76) d_Mo_renew_76 rfl ?_
            refine zo_aload_n (i := i_Mo_renew) (pc := 77) d_Mo_renew_77 rfl rfl ?_
            refine zo_iload_n (i := i_Mo_renew) (pc := 78) d_Mo_renew_78 rfl ?_
            replace hs : zHas ws (moW g B m (mup (mup F 16 (upd (F 16) (nI j).toNatClampNeg (if p = 1000 then 2000000000 else m 2 + p))) 14 (upd (F 14) (nI j).toNatClampNeg 2)) ++ R) := hs
            refine zc_V1 (i := i_Mo_renew) (pc := 79) 10 rfl m_Mo_end (ztb_of k_848 rfl) (ztb_of k_850 rfl) s_Mo_end d_Mo_renew_79 (Nat.le_of_ble_eq_true rfl) (Nat.le_of_ble_eq_true rfl) (Nat.le_of_ble_eq_true rfl) (Nat.le_of_ble_eq_true rfl) (hs.get (t := 0) rfl) (c_Mo_end hs ?_)
            refine zh_iastore (i := i_Mo_renew) (pc := 82) d_Mo_renew_82 hs 8 rfl (vp_in_nI (by omega) (by decide)) fun ws hs => ?_
            refine zo_goto (i := i_Mo_renew) (pc := 83) (tgt := 106) d_Mo_renew_83 (by decide) ?_
            refine zo_return (i := i_Mo_renew) (pc := 106) hq d_Mo_renew_106 rfl (Nat.le_of_ble_eq_true rfl) (Nat.le_of_ble_eq_true rfl) ?_
            rw [o14] at h7 h29
            rw [if_neg h7] at k
            replace hs : zHas ws (moW g B m (mup (mup (mup F 16 (upd (F 16) (nI j).toNatClampNeg (if p = 1000 then 2000000000 else m 2 + p))) 14 (upd (F 14) (nI j).toNatClampNeg 2)) 17 (upd (F 17) (nI j).toNatClampNeg (if v = 1000 then 2000000000 else m 2 + v))) ++ R) := hs
            simp only [nI_clamp (show j < 2 ^ 31 by omega)] at hs
            rw [hm2, ← ep] at hs
            rw [← ev] at hs
            rw [o17, hm2] at h69
            have hs1 : (if x.2.2.1 = 1 then x.2.2.1 else if p = 0 then 3 else 2) = 2 := by
              rw [if_neg h29, if_neg h38]
            have hs2 : (if 20 < v ∨ x.2.2.2.1 - nI c < v then zend (nI c) v else if 20 < x.2.2.2.1 - nI c then zend (nI c) 20 else x.2.2.2.1) = zend (nI c) v := by
              rw [if_pos (.inr (f1.mp (Int32.not_le.mp h69)))]
            have hy : oaR (nI c) v p x = (x.1, x.2.1, 2, zend (nI c) v, zend (nI c) p) := by
              unfold oaR
              simp only
              rw [hs1, hs2]
            rw [hy] at k
            obtain ⟨g0, g1, g2, g3, g4, g5, g6⟩ := hr.2.2.1
            refine k ws ⟨m, _, ?_, hs⟩
            exact hr.setO ⟨by rw [List.length_set]; exact g0, by rw [List.length_set]; exact g1, g2.keep hx rfl, g3.set rfl, g4.keep hx rfl, g5.set rfl, g6.set rfl⟩ (fun k hk => rfl) (fun k hk => by repeat rw [mup_ne (by omega)])
      · refine zo_iconst (i := i_Mo_renew) (pc := 41) (v := 3) d_Mo_renew_41 (by decide) ?_
        refine zo_goto (i := i_Mo_renew) (pc := 42) (tgt := 46) d_Mo_renew_42 (by decide) ?_
        refine zh_iastore (i := i_Mo_renew) (pc := 46) d_Mo_renew_46 hs 5 rfl (vp_in_nI (by omega) (by decide)) fun ws hs => ?_
        refine zo_aload_n (i := i_Mo_renew) (pc := 47) d_Mo_renew_47 rfl rfl ?_
        refine zo_get (i := i_Mo_renew) (pc := 48) 10 17 rfl zok_Mo (Nat.le_of_ble_eq_true rfl) (ztb_of k_875 rfl) d_Mo_renew_48 (fun _ _ _ h => h) (hs.get (t := 0) rfl) rfl ?_
        refine zo_iload_n (i := i_Mo_renew) (pc := 51) d_Mo_renew_51 rfl ?_
        refine zo_iaload (i := i_Mo_renew) (pc := 52) d_Mo_renew_52 (hs.get (t := 8) rfl) (vp_in_nI (by omega) (by decide)) ?_
        refine zo_aload_n (i := i_Mo_renew) (pc := 53) d_Mo_renew_53 rfl rfl ?_
        refine zo_get (i := i_Mo_renew) (pc := 54) 10 2 rfl zok_Mo (Nat.le_of_ble_eq_true rfl) (ztb_of k_860 rfl) d_Mo_renew_54 (fun _ _ _ h => h) (hs.get (t := 0) rfl) rfl ?_
        refine zo_isub (i := i_Mo_renew) (pc := 57) d_Mo_renew_57 ?_
        refine zo_istore (i := i_Mo_renew) (pc := 58) d_Mo_renew_58 (Nat.le_of_ble_eq_true rfl) ?_
        refine zo_iload_n (i := i_Mo_renew) (pc := 60) d_Mo_renew_60 rfl ?_
        refine zo_bipush (i := i_Mo_renew) (pc := 61) (v := 20) d_Mo_renew_61 (by decide) ?_
        refine zo_icmp_gt (i := i_Mo_renew) (pc := 63) (tgt := 72) d_Mo_renew_63 (by decide) (fun h63 => ?_) (fun h63 => ?_)
        · refine zo_aload_n (i := i_Mo_renew) (pc := 72) d_Mo_renew_72 rfl rfl ?_
          refine zo_get (i := i_Mo_renew) (pc := 73) 10 17 rfl zok_Mo (Nat.le_of_ble_eq_true rfl) (ztb_of k_875 rfl) d_Mo_renew_73 (fun _ _ _ h => h) (hs.get (t := 0) rfl) rfl ?_
          refine zo_iload_n (i := i_Mo_renew) (pc := 76) d_Mo_renew_76 rfl ?_
          refine zo_aload_n (i := i_Mo_renew) (pc := 77) d_Mo_renew_77 rfl rfl ?_
          refine zo_iload_n (i := i_Mo_renew) (pc := 78) d_Mo_renew_78 rfl ?_
          replace hs : zHas ws (moW g B m (mup (mup F 16 (upd (F 16) (nI j).toNatClampNeg (if p = 1000 then 2000000000 else m 2 + p))) 14 (upd (F 14) (nI j).toNatClampNeg 3)) ++ R) := hs
          refine zc_V1 (i := i_Mo_renew) (pc := 79) 10 rfl m_Mo_end (ztb_of k_848 rfl) (ztb_of k_850 rfl) s_Mo_end d_Mo_renew_79 (Nat.le_of_ble_eq_true rfl) (Nat.le_of_ble_eq_true rfl) (Nat.le_of_ble_eq_true rfl) (Nat.le_of_ble_eq_true rfl) (hs.get (t := 0) rfl) (c_Mo_end hs ?_)
          refine zh_iastore (i := i_Mo_renew) (pc := 82) d_Mo_renew_82 hs 8 rfl (vp_in_nI (by omega) (by decide)) fun ws hs => ?_
          refine zo_goto (i := i_Mo_renew) (pc := 83) (tgt := 106) d_Mo_renew_83 (by decide) ?_
          refine zo_return (i := i_Mo_renew) (pc := 106) hq d_Mo_renew_106 rfl (Nat.le_of_ble_eq_true rfl) (Nat.le_of_ble_eq_true rfl) ?_
          rw [o14] at h7 h29
          rw [if_neg h7] at k
          replace hs : zHas ws (moW g B m (mup (mup (mup F 16 (upd (F 16) (nI j).toNatClampNeg (if p = 1000 then 2000000000 else m 2 + p))) 14 (upd (F 14) (nI j).toNatClampNeg 3)) 17 (upd (F 17) (nI j).toNatClampNeg (if v = 1000 then 2000000000 else m 2 + v))) ++ R) := hs
          simp only [nI_clamp (show j < 2 ^ 31 by omega)] at hs
          rw [hm2, ← ep] at hs
          rw [← ev] at hs
          have hs1 : (if x.2.2.1 = 1 then x.2.2.1 else if p = 0 then 3 else 2) = 3 := by
            rw [if_neg h29, if_pos h38]
          have hs2 : (if 20 < v ∨ x.2.2.2.1 - nI c < v then zend (nI c) v else if 20 < x.2.2.2.1 - nI c then zend (nI c) 20 else x.2.2.2.1) = zend (nI c) v := by
            rw [if_pos (.inl h63)]
          have hy : oaR (nI c) v p x = (x.1, x.2.1, 3, zend (nI c) v, zend (nI c) p) := by
            unfold oaR
            simp only
            rw [hs1, hs2]
          rw [hy] at k
          obtain ⟨g0, g1, g2, g3, g4, g5, g6⟩ := hr.2.2.1
          refine k ws ⟨m, _, ?_, hs⟩
          exact hr.setO ⟨by rw [List.length_set]; exact g0, by rw [List.length_set]; exact g1, g2.keep hx rfl, g3.set rfl, g4.keep hx rfl, g5.set rfl, g6.set rfl⟩ (fun k hk => rfl) (fun k hk => by repeat rw [mup_ne (by omega)])
        · refine zo_iload_n (i := i_Mo_renew) (pc := 66) d_Mo_renew_66 rfl ?_
          refine zo_iload (i := i_Mo_renew) (pc := 67) d_Mo_renew_67 rfl ?_
          refine zo_icmp_le (i := i_Mo_renew) (pc := 69) (tgt := 86) d_Mo_renew_69 (by decide) (fun h69 => ?_) (fun h69 => ?_)
          · refine zo_iload (i := i_Mo_renew) (pc := 86) d_Mo_renew_86 rfl ?_
            refine zo_bipush (i := i_Mo_renew) (pc := 88) (v := 20) d_Mo_renew_88 (by decide) ?_
            refine zo_icmp_le (i := i_Mo_renew) (pc := 90) (tgt := 106) d_Mo_renew_90 (by decide) (fun h90 => ?_) (fun h90 => ?_)
            · refine zo_return (i := i_Mo_renew) (pc := 106) hq d_Mo_renew_106 rfl (Nat.le_of_ble_eq_true rfl) (Nat.le_of_ble_eq_true rfl) ?_
              rw [o14] at h7 h29
              rw [if_neg h7] at k
              replace hs : zHas ws (moW g B m (mup (mup F 16 (upd (F 16) (nI j).toNatClampNeg (if p = 1000 then 2000000000 else m 2 + p))) 14 (upd (F 14) (nI j).toNatClampNeg 3)) ++ R) := hs
              simp only [nI_clamp (show j < 2 ^ 31 by omega)] at hs
              rw [hm2, ← ep] at hs
              rw [o17, hm2] at h69
              rw [o17, hm2] at h90
              have hs1 : (if x.2.2.1 = 1 then x.2.2.1 else if p = 0 then 3 else 2) = 3 := by
                rw [if_neg h29, if_pos h38]
              have hs2 : (if 20 < v ∨ x.2.2.2.1 - nI c < v then zend (nI c) v else if 20 < x.2.2.2.1 - nI c then zend (nI c) 20 else x.2.2.2.1) = x.2.2.2.1 := by
                rw [if_neg (fun hh => hh.elim h63 (fun h2 => absurd (f1.mpr h2) (Int32.not_lt.mpr h69))), if_neg (fun h2 => absurd (f2.mpr h2) (Int32.not_lt.mpr h90))]
              have hy : oaR (nI c) v p x = (x.1, x.2.1, 3, x.2.2.2.1, zend (nI c) p) := by
                unfold oaR
                simp only
                rw [hs1, hs2]
              rw [hy] at k
              obtain ⟨g0, g1, g2, g3, g4, g5, g6⟩ := hr.2.2.1
              refine k ws ⟨m, _, ?_, hs⟩
              exact hr.setO ⟨by rw [List.length_set]; exact g0, by rw [List.length_set]; exact g1, g2.keep hx rfl, g3.set rfl, g4.keep hx rfl, g5.set rfl, g6.keep hx rfl⟩ (fun k hk => rfl) (fun k hk => by repeat rw [mup_ne (by omega)])
            · refine zo_aload_n (i := i_Mo_renew) (pc := 93) d_Mo_renew_93 rfl rfl ?_
              refine zo_get (i := i_Mo_renew) (pc := 94) 10 17 rfl zok_Mo (Nat.le_of_ble_eq_true rfl) (ztb_of k_875 rfl) d_Mo_renew_94 (fun _ _ _ h => h) (hs.get (t := 0) rfl) rfl ?_
              refine zo_iload_n (i := i_Mo_renew) (pc := 97) d_Mo_renew_97 rfl ?_
              refine zo_aload_n (i := i_Mo_renew) (pc := 98) d_Mo_renew_98 rfl rfl ?_
              refine zo_get (i := i_Mo_renew) (pc := 99) 10 2 rfl zok_Mo (Nat.le_of_ble_eq_true rfl) (ztb_of k_860 rfl) d_Mo_renew_99 (fun _ _ _ h => h) (hs.get (t := 0) rfl) rfl ?_
              refine zo_bipush (i := i_Mo_renew) (pc := 102) (v := 20) d_Mo_renew_102 (by decide) ?_
              refine zo_iadd (i := i_Mo_renew) (pc := 104) d_Mo_renew_104 ?_
              refine zh_iastore (i := i_Mo_renew) (pc := 105) d_Mo_renew_105 hs 8 rfl (vp_in_nI (by omega) (by decide)) fun ws hs => ?_
              refine zo_return (i := i_Mo_renew) (pc := 106) hq d_Mo_renew_106 rfl (Nat.le_of_ble_eq_true rfl) (Nat.le_of_ble_eq_true rfl) ?_
              rw [o14] at h7 h29
              rw [if_neg h7] at k
              replace hs : zHas ws (moW g B m (mup (mup (mup F 16 (upd (F 16) (nI j).toNatClampNeg (if p = 1000 then 2000000000 else m 2 + p))) 14 (upd (F 14) (nI j).toNatClampNeg 3)) 17 (upd (F 17) (nI j).toNatClampNeg (m 2 + 20))) ++ R) := hs
              simp only [nI_clamp (show j < 2 ^ 31 by omega)] at hs
              rw [hm2, ← ep] at hs
              rw [← e20] at hs
              rw [o17, hm2] at h69
              rw [o17, hm2] at h90
              have hs1 : (if x.2.2.1 = 1 then x.2.2.1 else if p = 0 then 3 else 2) = 3 := by
                rw [if_neg h29, if_pos h38]
              have hs2 : (if 20 < v ∨ x.2.2.2.1 - nI c < v then zend (nI c) v else if 20 < x.2.2.2.1 - nI c then zend (nI c) 20 else x.2.2.2.1) = zend (nI c) 20 := by
                rw [if_neg (fun hh => hh.elim h63 (fun h2 => absurd (f1.mpr h2) (Int32.not_lt.mpr h69))), if_pos (f2.mp (Int32.not_le.mp h90))]
              have hy : oaR (nI c) v p x = (x.1, x.2.1, 3, zend (nI c) 20, zend (nI c) p) := by
                unfold oaR
                simp only
                rw [hs1, hs2]
              rw [hy] at k
              obtain ⟨g0, g1, g2, g3, g4, g5, g6⟩ := hr.2.2.1
              refine k ws ⟨m, _, ?_, hs⟩
              exact hr.setO ⟨by rw [List.length_set]; exact g0, by rw [List.length_set]; exact g1, g2.keep hx rfl, g3.set rfl, g4.keep hx rfl, g5.set rfl, g6.set rfl⟩ (fun k hk => rfl) (fun k hk => by repeat rw [mup_ne (by omega)])
          · refine zo_aload_n (i := i_Mo_renew) (pc := 72) d_Mo_renew_72 rfl rfl ?_
            refine zo_get (i := i_Mo_renew) (pc := 73) 10 17 rfl zok_Mo (Nat.le_of_ble_eq_true rfl) (ztb_of k_875 rfl) d_Mo_renew_73 (fun _ _ _ h => h) (hs.get (t := 0) rfl) rfl ?_
            refine zo_iload_n (i := i_Mo_renew) (pc := 76) d_Mo_renew_76 rfl ?_
            refine zo_aload_n (i := i_Mo_renew) (pc := 77) d_Mo_renew_77 rfl rfl ?_
            refine zo_iload_n (i := i_Mo_renew) (pc := 78) d_Mo_renew_78 rfl ?_
            replace hs : zHas ws (moW g B m (mup (mup F 16 (upd (F 16) (nI j).toNatClampNeg (if p = 1000 then 2000000000 else m 2 + p))) 14 (upd (F 14) (nI j).toNatClampNeg 3)) ++ R) := hs
            refine zc_V1 (i := i_Mo_renew) (pc := 79) 10 rfl m_Mo_end (ztb_of k_848 rfl) (ztb_of k_850 rfl) s_Mo_end d_Mo_renew_79 (Nat.le_of_ble_eq_true rfl) (Nat.le_of_ble_eq_true rfl) (Nat.le_of_ble_eq_true rfl) (Nat.le_of_ble_eq_true rfl) (hs.get (t := 0) rfl) (c_Mo_end hs ?_)
            refine zh_iastore (i := i_Mo_renew) (pc := 82) d_Mo_renew_82 hs 8 rfl (vp_in_nI (by omega) (by decide)) fun ws hs => ?_
            refine zo_goto (i := i_Mo_renew) (pc := 83) (tgt := 106) d_Mo_renew_83 (by decide) ?_
            refine zo_return (i := i_Mo_renew) (pc := 106) hq d_Mo_renew_106 rfl (Nat.le_of_ble_eq_true rfl) (Nat.le_of_ble_eq_true rfl) ?_
            rw [o14] at h7 h29
            rw [if_neg h7] at k
            replace hs : zHas ws (moW g B m (mup (mup (mup F 16 (upd (F 16) (nI j).toNatClampNeg (if p = 1000 then 2000000000 else m 2 + p))) 14 (upd (F 14) (nI j).toNatClampNeg 3)) 17 (upd (F 17) (nI j).toNatClampNeg (if v = 1000 then 2000000000 else m 2 + v))) ++ R) := hs
            simp only [nI_clamp (show j < 2 ^ 31 by omega)] at hs
            rw [hm2, ← ep] at hs
            rw [← ev] at hs
            rw [o17, hm2] at h69
            have hs1 : (if x.2.2.1 = 1 then x.2.2.1 else if p = 0 then 3 else 2) = 3 := by
              rw [if_neg h29, if_pos h38]
            have hs2 : (if 20 < v ∨ x.2.2.2.1 - nI c < v then zend (nI c) v else if 20 < x.2.2.2.1 - nI c then zend (nI c) 20 else x.2.2.2.1) = zend (nI c) v := by
              rw [if_pos (.inr (f1.mp (Int32.not_le.mp h69)))]
            have hy : oaR (nI c) v p x = (x.1, x.2.1, 3, zend (nI c) v, zend (nI c) p) := by
              unfold oaR
              simp only
              rw [hs1, hs2]
            rw [hy] at k
            obtain ⟨g0, g1, g2, g3, g4, g5, g6⟩ := hr.2.2.1
            refine k ws ⟨m, _, ?_, hs⟩
            exact hr.setO ⟨by rw [List.length_set]; exact g0, by rw [List.length_set]; exact g1, g2.keep hx rfl, g3.set rfl, g4.keep hx rfl, g5.set rfl, g6.set rfl⟩ (fun k hk => rfl) (fun k hk => by repeat rw [mup_ne (by omega)])
  · refine zo_return (i := i_Mo_renew) (pc := 10) hq d_Mo_renew_10 rfl (Nat.le_of_ble_eq_true rfl) (Nat.le_of_ble_eq_true rfl) ?_
    rw [o14] at h7
    rw [if_pos h7] at k
    exact k ws ⟨_, _, hr, hs⟩
