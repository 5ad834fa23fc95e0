/-! What the public methods of the host refuse (walks by a program, gen45.py). -/
theorem zb_n {b : Bool} (h : ¬ zb b = 0) : b = true := by cases b <;> first | rfl | exact absurd rfl h
theorem zb_f {b : Bool} (h : ¬ b = true) : zb b = 0 := by cases b <;> first | rfl | exact absurd rfl h
theorem t_Ho_router_args {g : zG} {ws : va_W} (hnt : g.1.stackTraces = false) {o : Nat} {a n l z : Int32} (hb : ¬ (zwithin a 1 254 = true ∧ zwithin n 1 99 = true ∧ zwithin l 0 1000 = true ∧ zwithin z 0 99 = true)) : zCT g i_Ho_router [.ref o, .int a, .int n, .int l, .int z] ws "java/lang/IllegalArgumentException" := by
  refine zCT.walk (by decide +kernel) rfl (Nat.le_of_ble_eq_true rfl) fun x0 hq hE => ?_
  refine zo_iload_n (i := i_Ho_router) (pc := 0) d_Ho_router_0 rfl ?_
  refine zo_iconst (i := i_Ho_router) (pc := 1) (v := 1) d_Ho_router_1 (by decide) ?_
  refine zo_sipush (i := i_Ho_router) (pc := 2) (v := 254) d_Ho_router_2 (by decide) ?_
  refine zc_S3 (i := i_Ho_router) (pc := 5) m_Ho_isWithin (ztb_of k_359 rfl) (ztb_of k_360 rfl) d_Ho_router_5 (Nat.le_of_ble_eq_true rfl) (Nat.le_of_ble_eq_true rfl) (Nat.le_of_ble_eq_true rfl) (Nat.le_of_ble_eq_true rfl) (c_Ho_isWithin ?_)
  refine zo_if_eq (i := i_Ho_router) (pc := 8) (tgt := 40) d_Ho_router_8 (by decide) (fun h8 => ?_) (fun h8 => ?_)
  · refine zo_iconst (i := i_Ho_router) (pc := 40) (v := 0) d_Ho_router_40 (by decide) ?_
    exact zt_callS (i := i_Ho_router) (pc := 41) (av := [.int 0]) hq hE m_Ho_requireArguments (ztb_of k_362 rfl) (ztb_of k_363 rfl) d_Ho_router_41 rfl (Nat.le_of_ble_eq_true rfl) (Nat.le_of_ble_eq_true rfl) (Nat.le_of_ble_eq_true rfl) (Nat.le_of_ble_eq_true rfl) rfl (t_Ho_requireArguments hnt rfl)
  · refine zo_iload_n (i := i_Ho_router) (pc := 11) d_Ho_router_11 rfl ?_
    refine zc_S1 (i := i_Ho_router) (pc := 12) m_Ho_isNumber (ztb_of k_509 rfl) (ztb_of k_510 rfl) d_Ho_router_12 (Nat.le_of_ble_eq_true rfl) (Nat.le_of_ble_eq_true rfl) (Nat.le_of_ble_eq_true rfl) (Nat.le_of_ble_eq_true rfl) (c_Ho_isNumber ?_)
    refine zo_if_eq (i := i_Ho_router) (pc := 15) (tgt := 40) d_Ho_router_15 (by decide) (fun h15 => ?_) (fun h15 => ?_)
    · refine zo_iconst (i := i_Ho_router) (pc := 40) (v := 0) d_Ho_router_40 (by decide) ?_
      exact zt_callS (i := i_Ho_router) (pc := 41) (av := [.int 0]) hq hE m_Ho_requireArguments (ztb_of k_362 rfl) (ztb_of k_363 rfl) d_Ho_router_41 rfl (Nat.le_of_ble_eq_true rfl) (Nat.le_of_ble_eq_true rfl) (Nat.le_of_ble_eq_true rfl) (Nat.le_of_ble_eq_true rfl) rfl (t_Ho_requireArguments hnt rfl)
    · refine zo_iload_n (i := i_Ho_router) (pc := 18) d_Ho_router_18 rfl ?_
      refine zc_S1 (i := i_Ho_router) (pc := 19) m_Ho_isLife (ztb_of k_512 rfl) (ztb_of k_513 rfl) d_Ho_router_19 (Nat.le_of_ble_eq_true rfl) (Nat.le_of_ble_eq_true rfl) (Nat.le_of_ble_eq_true rfl) (Nat.le_of_ble_eq_true rfl) (c_Ho_isLife ?_)
      refine zo_if_eq (i := i_Ho_router) (pc := 22) (tgt := 40) d_Ho_router_22 (by decide) (fun h22 => ?_) (fun h22 => ?_)
      · refine zo_iconst (i := i_Ho_router) (pc := 40) (v := 0) d_Ho_router_40 (by decide) ?_
        exact zt_callS (i := i_Ho_router) (pc := 41) (av := [.int 0]) hq hE m_Ho_requireArguments (ztb_of k_362 rfl) (ztb_of k_363 rfl) d_Ho_router_41 rfl (Nat.le_of_ble_eq_true rfl) (Nat.le_of_ble_eq_true rfl) (Nat.le_of_ble_eq_true rfl) (Nat.le_of_ble_eq_true rfl) rfl (t_Ho_requireArguments hnt rfl)
      · refine zo_iload (i := i_Ho_router) (pc := 25) d_Ho_router_25 rfl ?_
        refine zo_iconst (i := i_Ho_router) (pc := 27) (v := 0) d_Ho_router_27 (by decide) ?_
        refine zo_bipush (i := i_Ho_router) (pc := 28) (v := 99) d_Ho_router_28 (by decide) ?_
        refine zc_S3 (i := i_Ho_router) (pc := 30) m_Ho_isWithin (ztb_of k_359 rfl) (ztb_of k_360 rfl) d_Ho_router_30 (Nat.le_of_ble_eq_true rfl) (Nat.le_of_ble_eq_true rfl) (Nat.le_of_ble_eq_true rfl) (Nat.le_of_ble_eq_true rfl) (c_Ho_isWithin ?_)
        refine zo_if_eq (i := i_Ho_router) (pc := 33) (tgt := 40) d_Ho_router_33 (by decide) (fun h33 => ?_) (fun h33 => ?_)
        · refine zo_iconst (i := i_Ho_router) (pc := 40) (v := 0) d_Ho_router_40 (by decide) ?_
          exact zt_callS (i := i_Ho_router) (pc := 41) (av := [.int 0]) hq hE m_Ho_requireArguments (ztb_of k_362 rfl) (ztb_of k_363 rfl) d_Ho_router_41 rfl (Nat.le_of_ble_eq_true rfl) (Nat.le_of_ble_eq_true rfl) (Nat.le_of_ble_eq_true rfl) (Nat.le_of_ble_eq_true rfl) rfl (t_Ho_requireArguments hnt rfl)
        · refine zo_iconst (i := i_Ho_router) (pc := 36) (v := 1) d_Ho_router_36 (by decide) ?_
          refine zo_goto (i := i_Ho_router) (pc := 37) (tgt := 41) d_Ho_router_37 (by decide) ?_
          exact absurd ⟨zb_n h8, zb_n h15, zb_n h22, zb_n h33⟩ hb
theorem t_Ho_prefix_args {g : zG} {ws : va_W} (hnt : g.1.stackTraces = false) {o : Nat} {p f v r : Int32} (hb : ¬ (zwithin p 1 250 = true ∧ zwithin f 0 3 = true ∧ zwithin v 0 1000 = true ∧ zwithin r 0 1000 = true)) : zCT g i_Ho_prefix [.ref o, .int p, .int f, .int v, .int r] ws "java/lang/IllegalArgumentException" := by
  refine zCT.walk (by decide +kernel) rfl (Nat.le_of_ble_eq_true rfl) fun x0 hq hE => ?_
  refine zo_iload_n (i := i_Ho_prefix) (pc := 0) d_Ho_prefix_0 rfl ?_
  refine zo_iconst (i := i_Ho_prefix) (pc := 1) (v := 1) d_Ho_prefix_1 (by decide) ?_
  refine zo_sipush (i := i_Ho_prefix) (pc := 2) (v := 250) d_Ho_prefix_2 (by decide) ?_
  refine zc_S3 (i := i_Ho_prefix) (pc := 5) m_Ho_isWithin (ztb_of k_359 rfl) (ztb_of k_360 rfl) d_Ho_prefix_5 (Nat.le_of_ble_eq_true rfl) (Nat.le_of_ble_eq_true rfl) (Nat.le_of_ble_eq_true rfl) (Nat.le_of_ble_eq_true rfl) (c_Ho_isWithin ?_)
  refine zo_if_eq (i := i_Ho_prefix) (pc := 8) (tgt := 39) d_Ho_prefix_8 (by decide) (fun h8 => ?_) (fun h8 => ?_)
  · refine zo_iconst (i := i_Ho_prefix) (pc := 39) (v := 0) d_Ho_prefix_39 (by decide) ?_
    exact zt_callS (i := i_Ho_prefix) (pc := 40) (av := [.int 0]) hq hE m_Ho_requireArguments (ztb_of k_362 rfl) (ztb_of k_363 rfl) d_Ho_prefix_40 rfl (Nat.le_of_ble_eq_true rfl) (Nat.le_of_ble_eq_true rfl) (Nat.le_of_ble_eq_true rfl) (Nat.le_of_ble_eq_true rfl) rfl (t_Ho_requireArguments hnt rfl)
  · refine zo_iload_n (i := i_Ho_prefix) (pc := 11) d_Ho_prefix_11 rfl ?_
    refine zo_iconst (i := i_Ho_prefix) (pc := 12) (v := 0) d_Ho_prefix_12 (by decide) ?_
    refine zo_iconst (i := i_Ho_prefix) (pc := 13) (v := 3) d_Ho_prefix_13 (by decide) ?_
    refine zc_S3 (i := i_Ho_prefix) (pc := 14) m_Ho_isWithin (ztb_of k_359 rfl) (ztb_of k_360 rfl) d_Ho_prefix_14 (Nat.le_of_ble_eq_true rfl) (Nat.le_of_ble_eq_true rfl) (Nat.le_of_ble_eq_true rfl) (Nat.le_of_ble_eq_true rfl) (c_Ho_isWithin ?_)
    refine zo_if_eq (i := i_Ho_prefix) (pc := 17) (tgt := 39) d_Ho_prefix_17 (by decide) (fun h17 => ?_) (fun h17 => ?_)
    · refine zo_iconst (i := i_Ho_prefix) (pc := 39) (v := 0) d_Ho_prefix_39 (by decide) ?_
      exact zt_callS (i := i_Ho_prefix) (pc := 40) (av := [.int 0]) hq hE m_Ho_requireArguments (ztb_of k_362 rfl) (ztb_of k_363 rfl) d_Ho_prefix_40 rfl (Nat.le_of_ble_eq_true rfl) (Nat.le_of_ble_eq_true rfl) (Nat.le_of_ble_eq_true rfl) (Nat.le_of_ble_eq_true rfl) rfl (t_Ho_requireArguments hnt rfl)
    · refine zo_iload_n (i := i_Ho_prefix) (pc := 20) d_Ho_prefix_20 rfl ?_
      refine zc_S1 (i := i_Ho_prefix) (pc := 21) m_Ho_isLife (ztb_of k_512 rfl) (ztb_of k_513 rfl) d_Ho_prefix_21 (Nat.le_of_ble_eq_true rfl) (Nat.le_of_ble_eq_true rfl) (Nat.le_of_ble_eq_true rfl) (Nat.le_of_ble_eq_true rfl) (c_Ho_isLife ?_)
      refine zo_if_eq (i := i_Ho_prefix) (pc := 24) (tgt := 39) d_Ho_prefix_24 (by decide) (fun h24 => ?_) (fun h24 => ?_)
      · refine zo_iconst (i := i_Ho_prefix) (pc := 39) (v := 0) d_Ho_prefix_39 (by decide) ?_
        exact zt_callS (i := i_Ho_prefix) (pc := 40) (av := [.int 0]) hq hE m_Ho_requireArguments (ztb_of k_362 rfl) (ztb_of k_363 rfl) d_Ho_prefix_40 rfl (Nat.le_of_ble_eq_true rfl) (Nat.le_of_ble_eq_true rfl) (Nat.le_of_ble_eq_true rfl) (Nat.le_of_ble_eq_true rfl) rfl (t_Ho_requireArguments hnt rfl)
      · refine zo_iload (i := i_Ho_prefix) (pc := 27) d_Ho_prefix_27 rfl ?_
        refine zc_S1 (i := i_Ho_prefix) (pc := 29) m_Ho_isLife (ztb_of k_512 rfl) (ztb_of k_513 rfl) d_Ho_prefix_29 (Nat.le_of_ble_eq_true rfl) (Nat.le_of_ble_eq_true rfl) (Nat.le_of_ble_eq_true rfl) (Nat.le_of_ble_eq_true rfl) (c_Ho_isLife ?_)
        refine zo_if_eq (i := i_Ho_prefix) (pc := 32) (tgt := 39) d_Ho_prefix_32 (by decide) (fun h32 => ?_) (fun h32 => ?_)
        · refine zo_iconst (i := i_Ho_prefix) (pc := 39) (v := 0) d_Ho_prefix_39 (by decide) ?_
          exact zt_callS (i := i_Ho_prefix) (pc := 40) (av := [.int 0]) hq hE m_Ho_requireArguments (ztb_of k_362 rfl) (ztb_of k_363 rfl) d_Ho_prefix_40 rfl (Nat.le_of_ble_eq_true rfl) (Nat.le_of_ble_eq_true rfl) (Nat.le_of_ble_eq_true rfl) (Nat.le_of_ble_eq_true rfl) rfl (t_Ho_requireArguments hnt rfl)
        · refine zo_iconst (i := i_Ho_prefix) (pc := 35) (v := 1) d_Ho_prefix_35 (by decide) ?_
          refine zo_goto (i := i_Ho_prefix) (pc := 36) (tgt := 40) d_Ho_prefix_36 (by decide) ?_
          exact absurd ⟨zb_n h8, zb_n h17, zb_n h24, zb_n h32⟩ hb
theorem t_Ho_asked_args {g : zG} {ws : va_W} (hnt : g.1.stackTraces = false) {o : Nat} {f t n : Int32} (hb : ¬ ((f = 0 ∨ zaddr f = true) ∧ zaddr t = true ∧ zwithin n 1 99 = true)) : zCT g i_Ho_asked [.ref o, .int f, .int t, .int n] ws "java/lang/IllegalArgumentException" := by
  refine zCT.walk (by decide +kernel) rfl (Nat.le_of_ble_eq_true rfl) fun x0 hq hE => ?_
  refine zo_iload_n (i := i_Ho_asked) (pc := 0) d_Ho_asked_0 rfl ?_
  refine zo_if_eq (i := i_Ho_asked) (pc := 1) (tgt := 11) d_Ho_asked_1 (by decide) (fun h1 => ?_) (fun h1 => ?_)
  · refine zo_iload_n (i := i_Ho_asked) (pc := 11) d_Ho_asked_11 rfl ?_
    refine zc_S1 (i := i_Ho_asked) (pc := 12) m_Ho_isAddress (ztb_of k_652 rfl) (ztb_of k_653 rfl) d_Ho_asked_12 (Nat.le_of_ble_eq_true rfl) (Nat.le_of_ble_eq_true rfl) (Nat.le_of_ble_eq_true rfl) (Nat.le_of_ble_eq_true rfl) (c_Ho_isAddress ?_)
    refine zo_if_eq (i := i_Ho_asked) (pc := 15) (tgt := 29) d_Ho_asked_15 (by decide) (fun h15 => ?_) (fun h15 => ?_)
    · refine zo_iconst (i := i_Ho_asked) (pc := 29) (v := 0) d_Ho_asked_29 (by decide) ?_
      exact zt_callS (i := i_Ho_asked) (pc := 30) (av := [.int 0]) hq hE m_Ho_requireArguments (ztb_of k_362 rfl) (ztb_of k_363 rfl) d_Ho_asked_30 rfl (Nat.le_of_ble_eq_true rfl) (Nat.le_of_ble_eq_true rfl) (Nat.le_of_ble_eq_true rfl) (Nat.le_of_ble_eq_true rfl) rfl (t_Ho_requireArguments hnt rfl)
    · refine zo_iload_n (i := i_Ho_asked) (pc := 18) d_Ho_asked_18 rfl ?_
      refine zc_S1 (i := i_Ho_asked) (pc := 19) m_Ho_isNumber (ztb_of k_509 rfl) (ztb_of k_510 rfl) d_Ho_asked_19 (Nat.le_of_ble_eq_true rfl) (Nat.le_of_ble_eq_true rfl) (Nat.le_of_ble_eq_true rfl) (Nat.le_of_ble_eq_true rfl) (c_Ho_isNumber ?_)
      refine zo_if_eq (i := i_Ho_asked) (pc := 22) (tgt := 29) d_Ho_asked_22 (by decide) (fun h22 => ?_) (fun h22 => ?_)
      · refine zo_iconst (i := i_Ho_asked) (pc := 29) (v := 0) d_Ho_asked_29 (by decide) ?_
        exact zt_callS (i := i_Ho_asked) (pc := 30) (av := [.int 0]) hq hE m_Ho_requireArguments (ztb_of k_362 rfl) (ztb_of k_363 rfl) d_Ho_asked_30 rfl (Nat.le_of_ble_eq_true rfl) (Nat.le_of_ble_eq_true rfl) (Nat.le_of_ble_eq_true rfl) (Nat.le_of_ble_eq_true rfl) rfl (t_Ho_requireArguments hnt rfl)
      · refine zo_iconst (i := i_Ho_asked) (pc := 25) (v := 1) d_Ho_asked_25 (by decide) ?_
        refine zo_goto (i := i_Ho_asked) (pc := 26) (tgt := 30) d_Ho_asked_26 (by decide) ?_
        exact absurd ⟨Or.inl h1, zb_n h15, zb_n h22⟩ hb
  · refine zo_iload_n (i := i_Ho_asked) (pc := 4) d_Ho_asked_4 rfl ?_
    refine zc_S1 (i := i_Ho_asked) (pc := 5) m_Ho_isAddress (ztb_of k_652 rfl) (ztb_of k_653 rfl) d_Ho_asked_5 (Nat.le_of_ble_eq_true rfl) (Nat.le_of_ble_eq_true rfl) (Nat.le_of_ble_eq_true rfl) (Nat.le_of_ble_eq_true rfl) (c_Ho_isAddress ?_)
    refine zo_if_eq (i := i_Ho_asked) (pc := 8) (tgt := 29) d_Ho_asked_8 (by decide) (fun h8 => ?_) (fun h8 => ?_)
    · refine zo_iconst (i := i_Ho_asked) (pc := 29) (v := 0) d_Ho_asked_29 (by decide) ?_
      exact zt_callS (i := i_Ho_asked) (pc := 30) (av := [.int 0]) hq hE m_Ho_requireArguments (ztb_of k_362 rfl) (ztb_of k_363 rfl) d_Ho_asked_30 rfl (Nat.le_of_ble_eq_true rfl) (Nat.le_of_ble_eq_true rfl) (Nat.le_of_ble_eq_true rfl) (Nat.le_of_ble_eq_true rfl) rfl (t_Ho_requireArguments hnt rfl)
    · refine zo_iload_n (i := i_Ho_asked) (pc := 11) d_Ho_asked_11 rfl ?_
      refine zc_S1 (i := i_Ho_asked) (pc := 12) m_Ho_isAddress (ztb_of k_652 rfl) (ztb_of k_653 rfl) d_Ho_asked_12 (Nat.le_of_ble_eq_true rfl) (Nat.le_of_ble_eq_true rfl) (Nat.le_of_ble_eq_true rfl) (Nat.le_of_ble_eq_true rfl) (c_Ho_isAddress ?_)
      refine zo_if_eq (i := i_Ho_asked) (pc := 15) (tgt := 29) d_Ho_asked_15 (by decide) (fun h15 => ?_) (fun h15 => ?_)
      · refine zo_iconst (i := i_Ho_asked) (pc := 29) (v := 0) d_Ho_asked_29 (by decide) ?_
        exact zt_callS (i := i_Ho_asked) (pc := 30) (av := [.int 0]) hq hE m_Ho_requireArguments (ztb_of k_362 rfl) (ztb_of k_363 rfl) d_Ho_asked_30 rfl (Nat.le_of_ble_eq_true rfl) (Nat.le_of_ble_eq_true rfl) (Nat.le_of_ble_eq_true rfl) (Nat.le_of_ble_eq_true rfl) rfl (t_Ho_requireArguments hnt rfl)
      · refine zo_iload_n (i := i_Ho_asked) (pc := 18) d_Ho_asked_18 rfl ?_
        refine zc_S1 (i := i_Ho_asked) (pc := 19) m_Ho_isNumber (ztb_of k_509 rfl) (ztb_of k_510 rfl) d_Ho_asked_19 (Nat.le_of_ble_eq_true rfl) (Nat.le_of_ble_eq_true rfl) (Nat.le_of_ble_eq_true rfl) (Nat.le_of_ble_eq_true rfl) (c_Ho_isNumber ?_)
        refine zo_if_eq (i := i_Ho_asked) (pc := 22) (tgt := 29) d_Ho_asked_22 (by decide) (fun h22 => ?_) (fun h22 => ?_)
        · refine zo_iconst (i := i_Ho_asked) (pc := 29) (v := 0) d_Ho_asked_29 (by decide) ?_
          exact zt_callS (i := i_Ho_asked) (pc := 30) (av := [.int 0]) hq hE m_Ho_requireArguments (ztb_of k_362 rfl) (ztb_of k_363 rfl) d_Ho_asked_30 rfl (Nat.le_of_ble_eq_true rfl) (Nat.le_of_ble_eq_true rfl) (Nat.le_of_ble_eq_true rfl) (Nat.le_of_ble_eq_true rfl) rfl (t_Ho_requireArguments hnt rfl)
        · refine zo_iconst (i := i_Ho_asked) (pc := 25) (v := 1) d_Ho_asked_25 (by decide) ?_
          refine zo_goto (i := i_Ho_asked) (pc := 26) (tgt := 30) d_Ho_asked_26 (by decide) ?_
          exact absurd ⟨Or.inr (zb_n h8), zb_n h15, zb_n h22⟩ hb
theorem t_Ho_told_args {g : zG} {ws : va_W} (hnt : g.1.stackTraces = false) {o : Nat} {t n fl : Int32} (hb : ¬ (zaddr t = true ∧ zwithin n 1 99 = true ∧ zwithin fl 0 7 = true)) : zCT g i_Ho_told [.ref o, .int t, .int n, .int fl] ws "java/lang/IllegalArgumentException" := by
  refine zCT.walk (by decide +kernel) rfl (Nat.le_of_ble_eq_true rfl) fun x0 hq hE => ?_
  refine zo_iload_n (i := i_Ho_told) (pc := 0) d_Ho_told_0 rfl ?_
  refine zc_S1 (i := i_Ho_told) (pc := 1) m_Ho_isAddress (ztb_of k_652 rfl) (ztb_of k_653 rfl) d_Ho_told_1 (Nat.le_of_ble_eq_true rfl) (Nat.le_of_ble_eq_true rfl) (Nat.le_of_ble_eq_true rfl) (Nat.le_of_ble_eq_true rfl) (c_Ho_isAddress ?_)
  refine zo_if_eq (i := i_Ho_told) (pc := 4) (tgt := 28) d_Ho_told_4 (by decide) (fun h4 => ?_) (fun h4 => ?_)
  · refine zo_iconst (i := i_Ho_told) (pc := 28) (v := 0) d_Ho_told_28 (by decide) ?_
    exact zt_callS (i := i_Ho_told) (pc := 29) (av := [.int 0]) hq hE m_Ho_requireArguments (ztb_of k_362 rfl) (ztb_of k_363 rfl) d_Ho_told_29 rfl (Nat.le_of_ble_eq_true rfl) (Nat.le_of_ble_eq_true rfl) (Nat.le_of_ble_eq_true rfl) (Nat.le_of_ble_eq_true rfl) rfl (t_Ho_requireArguments hnt rfl)
  · refine zo_iload_n (i := i_Ho_told) (pc := 7) d_Ho_told_7 rfl ?_
    refine zc_S1 (i := i_Ho_told) (pc := 8) m_Ho_isNumber (ztb_of k_509 rfl) (ztb_of k_510 rfl) d_Ho_told_8 (Nat.le_of_ble_eq_true rfl) (Nat.le_of_ble_eq_true rfl) (Nat.le_of_ble_eq_true rfl) (Nat.le_of_ble_eq_true rfl) (c_Ho_isNumber ?_)
    refine zo_if_eq (i := i_Ho_told) (pc := 11) (tgt := 28) d_Ho_told_11 (by decide) (fun h11 => ?_) (fun h11 => ?_)
    · refine zo_iconst (i := i_Ho_told) (pc := 28) (v := 0) d_Ho_told_28 (by decide) ?_
      exact zt_callS (i := i_Ho_told) (pc := 29) (av := [.int 0]) hq hE m_Ho_requireArguments (ztb_of k_362 rfl) (ztb_of k_363 rfl) d_Ho_told_29 rfl (Nat.le_of_ble_eq_true rfl) (Nat.le_of_ble_eq_true rfl) (Nat.le_of_ble_eq_true rfl) (Nat.le_of_ble_eq_true rfl) rfl (t_Ho_requireArguments hnt rfl)
    · refine zo_iload_n (i := i_Ho_told) (pc := 14) d_Ho_told_14 rfl ?_
      refine zo_iconst (i := i_Ho_told) (pc := 15) (v := 0) d_Ho_told_15 (by decide) ?_
      refine zo_bipush (i := i_Ho_told) (pc := 16) (v := 7) d_Ho_told_16 (by decide) ?_
      refine zc_S3 (i := i_Ho_told) (pc := 18) m_Ho_isWithin (ztb_of k_359 rfl) (ztb_of k_360 rfl) d_Ho_told_18 (Nat.le_of_ble_eq_true rfl) (Nat.le_of_ble_eq_true rfl) (Nat.le_of_ble_eq_true rfl) (Nat.le_of_ble_eq_true rfl) (c_Ho_isWithin ?_)
      refine zo_if_eq (i := i_Ho_told) (pc := 21) (tgt := 28) d_Ho_told_21 (by decide) (fun h21 => ?_) (fun h21 => ?_)
      · refine zo_iconst (i := i_Ho_told) (pc := 28) (v := 0) d_Ho_told_28 (by decide) ?_
        exact zt_callS (i := i_Ho_told) (pc := 29) (av := [.int 0]) hq hE m_Ho_requireArguments (ztb_of k_362 rfl) (ztb_of k_363 rfl) d_Ho_told_29 rfl (Nat.le_of_ble_eq_true rfl) (Nat.le_of_ble_eq_true rfl) (Nat.le_of_ble_eq_true rfl) (Nat.le_of_ble_eq_true rfl) rfl (t_Ho_requireArguments hnt rfl)
      · refine zo_iconst (i := i_Ho_told) (pc := 24) (v := 1) d_Ho_told_24 (by decide) ?_
        refine zo_goto (i := i_Ho_told) (pc := 25) (tgt := 29) d_Ho_told_25 (by decide) ?_
        exact absurd ⟨zb_n h4, zb_n h11, zb_n h21⟩ hb
theorem t_Ho_send_args {g : zG} {ws : va_W} (hnt : g.1.stackTraces = false) {o : Nat} {t n : Int32} (hb : ¬ (zaddr t = true ∧ zwithin n 1 40 = true)) : zCT g i_Ho_send [.ref o, .int t, .int n] ws "java/lang/IllegalArgumentException" := by
  refine zCT.walk (by decide +kernel) rfl (Nat.le_of_ble_eq_true rfl) fun x0 hq hE => ?_
  refine zo_iload_n (i := i_Ho_send) (pc := 0) d_Ho_send_0 rfl ?_
  refine zc_S1 (i := i_Ho_send) (pc := 1) m_Ho_isAddress (ztb_of k_652 rfl) (ztb_of k_653 rfl) d_Ho_send_1 (Nat.le_of_ble_eq_true rfl) (Nat.le_of_ble_eq_true rfl) (Nat.le_of_ble_eq_true rfl) (Nat.le_of_ble_eq_true rfl) (c_Ho_isAddress ?_)
  refine zo_if_eq (i := i_Ho_send) (pc := 4) (tgt := 21) d_Ho_send_4 (by decide) (fun h4 => ?_) (fun h4 => ?_)
  · refine zo_iconst (i := i_Ho_send) (pc := 21) (v := 0) d_Ho_send_21 (by decide) ?_
    exact zt_callS (i := i_Ho_send) (pc := 22) (av := [.int 0]) hq hE m_Ho_requireArguments (ztb_of k_362 rfl) (ztb_of k_363 rfl) d_Ho_send_22 rfl (Nat.le_of_ble_eq_true rfl) (Nat.le_of_ble_eq_true rfl) (Nat.le_of_ble_eq_true rfl) (Nat.le_of_ble_eq_true rfl) rfl (t_Ho_requireArguments hnt rfl)
  · refine zo_iload_n (i := i_Ho_send) (pc := 7) d_Ho_send_7 rfl ?_
    refine zo_iconst (i := i_Ho_send) (pc := 8) (v := 1) d_Ho_send_8 (by decide) ?_
    refine zo_bipush (i := i_Ho_send) (pc := 9) (v := 40) d_Ho_send_9 (by decide) ?_
    refine zc_S3 (i := i_Ho_send) (pc := 11) m_Ho_isWithin (ztb_of k_359 rfl) (ztb_of k_360 rfl) d_Ho_send_11 (Nat.le_of_ble_eq_true rfl) (Nat.le_of_ble_eq_true rfl) (Nat.le_of_ble_eq_true rfl) (Nat.le_of_ble_eq_true rfl) (c_Ho_isWithin ?_)
    refine zo_if_eq (i := i_Ho_send) (pc := 14) (tgt := 21) d_Ho_send_14 (by decide) (fun h14 => ?_) (fun h14 => ?_)
    · refine zo_iconst (i := i_Ho_send) (pc := 21) (v := 0) d_Ho_send_21 (by decide) ?_
      exact zt_callS (i := i_Ho_send) (pc := 22) (av := [.int 0]) hq hE m_Ho_requireArguments (ztb_of k_362 rfl) (ztb_of k_363 rfl) d_Ho_send_22 rfl (Nat.le_of_ble_eq_true rfl) (Nat.le_of_ble_eq_true rfl) (Nat.le_of_ble_eq_true rfl) (Nat.le_of_ble_eq_true rfl) rfl (t_Ho_requireArguments hnt rfl)
    · refine zo_iconst (i := i_Ho_send) (pc := 17) (v := 1) d_Ho_send_17 (by decide) ?_
      refine zo_goto (i := i_Ho_send) (pc := 18) (tgt := 22) d_Ho_send_18 (by decide) ?_
      exact absurd ⟨zb_n h4, zb_n h14⟩ hb
theorem t_Ho_smaller_args {g : zG} {ws : va_W} (hnt : g.1.stackTraces = false) {o : Nat} {t n : Int32} (hb : ¬ (zaddr t = true ∧ zwithin n 0 40 = true)) : zCT g i_Ho_smaller [.ref o, .int t, .int n] ws "java/lang/IllegalArgumentException" := by
  refine zCT.walk (by decide +kernel) rfl (Nat.le_of_ble_eq_true rfl) fun x0 hq hE => ?_
  refine zo_iload_n (i := i_Ho_smaller) (pc := 0) d_Ho_smaller_0 rfl ?_
  refine zc_S1 (i := i_Ho_smaller) (pc := 1) m_Ho_isAddress (ztb_of k_652 rfl) (ztb_of k_653 rfl) d_Ho_smaller_1 (Nat.le_of_ble_eq_true rfl) (Nat.le_of_ble_eq_true rfl) (Nat.le_of_ble_eq_true rfl) (Nat.le_of_ble_eq_true rfl) (c_Ho_isAddress ?_)
  refine zo_if_eq (i := i_Ho_smaller) (pc := 4) (tgt := 21) d_Ho_smaller_4 (by decide) (fun h4 => ?_) (fun h4 => ?_)
  · refine zo_iconst (i := i_Ho_smaller) (pc := 21) (v := 0) d_Ho_smaller_21 (by decide) ?_
    exact zt_callS (i := i_Ho_smaller) (pc := 22) (av := [.int 0]) hq hE m_Ho_requireArguments (ztb_of k_362 rfl) (ztb_of k_363 rfl) d_Ho_smaller_22 rfl (Nat.le_of_ble_eq_true rfl) (Nat.le_of_ble_eq_true rfl) (Nat.le_of_ble_eq_true rfl) (Nat.le_of_ble_eq_true rfl) rfl (t_Ho_requireArguments hnt rfl)
  · refine zo_iload_n (i := i_Ho_smaller) (pc := 7) d_Ho_smaller_7 rfl ?_
    refine zo_iconst (i := i_Ho_smaller) (pc := 8) (v := 0) d_Ho_smaller_8 (by decide) ?_
    refine zo_bipush (i := i_Ho_smaller) (pc := 9) (v := 40) d_Ho_smaller_9 (by decide) ?_
    refine zc_S3 (i := i_Ho_smaller) (pc := 11) m_Ho_isWithin (ztb_of k_359 rfl) (ztb_of k_360 rfl) d_Ho_smaller_11 (Nat.le_of_ble_eq_true rfl) (Nat.le_of_ble_eq_true rfl) (Nat.le_of_ble_eq_true rfl) (Nat.le_of_ble_eq_true rfl) (c_Ho_isWithin ?_)
    refine zo_if_eq (i := i_Ho_smaller) (pc := 14) (tgt := 21) d_Ho_smaller_14 (by decide) (fun h14 => ?_) (fun h14 => ?_)
    · refine zo_iconst (i := i_Ho_smaller) (pc := 21) (v := 0) d_Ho_smaller_21 (by decide) ?_
      exact zt_callS (i := i_Ho_smaller) (pc := 22) (av := [.int 0]) hq hE m_Ho_requireArguments (ztb_of k_362 rfl) (ztb_of k_363 rfl) d_Ho_smaller_22 rfl (Nat.le_of_ble_eq_true rfl) (Nat.le_of_ble_eq_true rfl) (Nat.le_of_ble_eq_true rfl) (Nat.le_of_ble_eq_true rfl) rfl (t_Ho_requireArguments hnt rfl)
    · refine zo_iconst (i := i_Ho_smaller) (pc := 17) (v := 1) d_Ho_smaller_17 (by decide) ?_
      refine zo_goto (i := i_Ho_smaller) (pc := 18) (tgt := 22) d_Ho_smaller_18 (by decide) ?_
      exact absurd ⟨zb_n h4, zb_n h14⟩ hb
theorem t_Ho_come_args {g : zG} {ws : va_W} (hnt : g.1.stackTraces = false) {o : Nat} {f t : Int32} (hb : ¬ ((f = 0 ∨ zaddr f = true) ∧ (t = 65535 ∨ zaddr t = true))) : zCT g i_Ho_come [.ref o, .int f, .int t] ws "java/lang/IllegalArgumentException" := by
  refine zCT.walk (by decide +kernel) rfl (Nat.le_of_ble_eq_true rfl) fun x0 hq hE => ?_
  refine zo_iload_n (i := i_Ho_come) (pc := 0) d_Ho_come_0 rfl ?_
  refine zo_if_eq (i := i_Ho_come) (pc := 1) (tgt := 11) d_Ho_come_1 (by decide) (fun h1 => ?_) (fun h1 => ?_)
  · refine zo_iload_n (i := i_Ho_come) (pc := 11) d_Ho_come_11 rfl ?_
    refine zo_ldc (i := i_Ho_come) (pc := 12) d_Ho_come_12 (ztb_of k_256 rfl) ?_
    refine zo_icmp_eq (i := i_Ho_come) (pc := 14) (tgt := 24) d_Ho_come_14 (by decide) (fun h14 => ?_) (fun h14 => ?_)
    · refine zo_iconst (i := i_Ho_come) (pc := 24) (v := 1) d_Ho_come_24 (by decide) ?_
      refine zo_goto (i := i_Ho_come) (pc := 25) (tgt := 29) d_Ho_come_25 (by decide) ?_
      exact absurd ⟨Or.inl h1, Or.inl h14⟩ hb
    · refine zo_iload_n (i := i_Ho_come) (pc := 17) d_Ho_come_17 rfl ?_
      refine zc_S1 (i := i_Ho_come) (pc := 18) m_Ho_isAddress (ztb_of k_652 rfl) (ztb_of k_653 rfl) d_Ho_come_18 (Nat.le_of_ble_eq_true rfl) (Nat.le_of_ble_eq_true rfl) (Nat.le_of_ble_eq_true rfl) (Nat.le_of_ble_eq_true rfl) (c_Ho_isAddress ?_)
      refine zo_if_eq (i := i_Ho_come) (pc := 21) (tgt := 28) d_Ho_come_21 (by decide) (fun h21 => ?_) (fun h21 => ?_)
      · refine zo_iconst (i := i_Ho_come) (pc := 28) (v := 0) d_Ho_come_28 (by decide) ?_
        exact zt_callS (i := i_Ho_come) (pc := 29) (av := [.int 0]) hq hE m_Ho_requireArguments (ztb_of k_362 rfl) (ztb_of k_363 rfl) d_Ho_come_29 rfl (Nat.le_of_ble_eq_true rfl) (Nat.le_of_ble_eq_true rfl) (Nat.le_of_ble_eq_true rfl) (Nat.le_of_ble_eq_true rfl) rfl (t_Ho_requireArguments hnt rfl)
      · refine zo_iconst (i := i_Ho_come) (pc := 24) (v := 1) d_Ho_come_24 (by decide) ?_
        refine zo_goto (i := i_Ho_come) (pc := 25) (tgt := 29) d_Ho_come_25 (by decide) ?_
        exact absurd ⟨Or.inl h1, Or.inr (zb_n h21)⟩ hb
  · refine zo_iload_n (i := i_Ho_come) (pc := 4) d_Ho_come_4 rfl ?_
    refine zc_S1 (i := i_Ho_come) (pc := 5) m_Ho_isAddress (ztb_of k_652 rfl) (ztb_of k_653 rfl) d_Ho_come_5 (Nat.le_of_ble_eq_true rfl) (Nat.le_of_ble_eq_true rfl) (Nat.le_of_ble_eq_true rfl) (Nat.le_of_ble_eq_true rfl) (c_Ho_isAddress ?_)
    refine zo_if_eq (i := i_Ho_come) (pc := 8) (tgt := 28) d_Ho_come_8 (by decide) (fun h8 => ?_) (fun h8 => ?_)
    · refine zo_iconst (i := i_Ho_come) (pc := 28) (v := 0) d_Ho_come_28 (by decide) ?_
      exact zt_callS (i := i_Ho_come) (pc := 29) (av := [.int 0]) hq hE m_Ho_requireArguments (ztb_of k_362 rfl) (ztb_of k_363 rfl) d_Ho_come_29 rfl (Nat.le_of_ble_eq_true rfl) (Nat.le_of_ble_eq_true rfl) (Nat.le_of_ble_eq_true rfl) (Nat.le_of_ble_eq_true rfl) rfl (t_Ho_requireArguments hnt rfl)
    · refine zo_iload_n (i := i_Ho_come) (pc := 11) d_Ho_come_11 rfl ?_
      refine zo_ldc (i := i_Ho_come) (pc := 12) d_Ho_come_12 (ztb_of k_256 rfl) ?_
      refine zo_icmp_eq (i := i_Ho_come) (pc := 14) (tgt := 24) d_Ho_come_14 (by decide) (fun h14 => ?_) (fun h14 => ?_)
      · refine zo_iconst (i := i_Ho_come) (pc := 24) (v := 1) d_Ho_come_24 (by decide) ?_
        refine zo_goto (i := i_Ho_come) (pc := 25) (tgt := 29) d_Ho_come_25 (by decide) ?_
        exact absurd ⟨Or.inr (zb_n h8), Or.inl h14⟩ hb
      · refine zo_iload_n (i := i_Ho_come) (pc := 17) d_Ho_come_17 rfl ?_
        refine zc_S1 (i := i_Ho_come) (pc := 18) m_Ho_isAddress (ztb_of k_652 rfl) (ztb_of k_653 rfl) d_Ho_come_18 (Nat.le_of_ble_eq_true rfl) (Nat.le_of_ble_eq_true rfl) (Nat.le_of_ble_eq_true rfl) (Nat.le_of_ble_eq_true rfl) (c_Ho_isAddress ?_)
        refine zo_if_eq (i := i_Ho_come) (pc := 21) (tgt := 28) d_Ho_come_21 (by decide) (fun h21 => ?_) (fun h21 => ?_)
        · refine zo_iconst (i := i_Ho_come) (pc := 28) (v := 0) d_Ho_come_28 (by decide) ?_
          exact zt_callS (i := i_Ho_come) (pc := 29) (av := [.int 0]) hq hE m_Ho_requireArguments (ztb_of k_362 rfl) (ztb_of k_363 rfl) d_Ho_come_29 rfl (Nat.le_of_ble_eq_true rfl) (Nat.le_of_ble_eq_true rfl) (Nat.le_of_ble_eq_true rfl) (Nat.le_of_ble_eq_true rfl) rfl (t_Ho_requireArguments hnt rfl)
        · refine zo_iconst (i := i_Ho_come) (pc := 24) (v := 1) d_Ho_come_24 (by decide) ?_
          refine zo_goto (i := i_Ho_come) (pc := 25) (tgt := 29) d_Ho_come_25 (by decide) ?_
          exact absurd ⟨Or.inr (zb_n h8), Or.inr (zb_n h21)⟩ hb
theorem t_Ho_header_args {g : zG} {ws : va_W} (hnt : g.1.stackTraces = false) {o : Nat} {a b : Int32} (hb : ¬ (zwithin a 0 9 = true ∧ zwithin b 0 3 = true)) : zCT g i_Ho_header [.ref o, .int a, .int b] ws "java/lang/IllegalArgumentException" := by
  refine zCT.walk (by decide +kernel) rfl (Nat.le_of_ble_eq_true rfl) fun x0 hq hE => ?_
  refine zo_iload_n (i := i_Ho_header) (pc := 0) d_Ho_header_0 rfl ?_
  refine zo_iconst (i := i_Ho_header) (pc := 1) (v := 0) d_Ho_header_1 (by decide) ?_
  refine zo_bipush (i := i_Ho_header) (pc := 2) (v := 9) d_Ho_header_2 (by decide) ?_
  refine zc_S3 (i := i_Ho_header) (pc := 4) m_Ho_isWithin (ztb_of k_359 rfl) (ztb_of k_360 rfl) d_Ho_header_4 (Nat.le_of_ble_eq_true rfl) (Nat.le_of_ble_eq_true rfl) (Nat.le_of_ble_eq_true rfl) (Nat.le_of_ble_eq_true rfl) (c_Ho_isWithin ?_)
  refine zo_if_eq (i := i_Ho_header) (pc := 7) (tgt := 23) d_Ho_header_7 (by decide) (fun h7 => ?_) (fun h7 => ?_)
  · refine zo_iconst (i := i_Ho_header) (pc := 23) (v := 0) d_Ho_header_23 (by decide) ?_
    exact zt_callS (i := i_Ho_header) (pc := 24) (av := [.int 0]) hq hE m_Ho_requireArguments (ztb_of k_362 rfl) (ztb_of k_363 rfl) d_Ho_header_24 rfl (Nat.le_of_ble_eq_true rfl) (Nat.le_of_ble_eq_true rfl) (Nat.le_of_ble_eq_true rfl) (Nat.le_of_ble_eq_true rfl) rfl (t_Ho_requireArguments hnt rfl)
  · refine zo_iload_n (i := i_Ho_header) (pc := 10) d_Ho_header_10 rfl ?_
    refine zo_iconst (i := i_Ho_header) (pc := 11) (v := 0) d_Ho_header_11 (by decide) ?_
    refine zo_iconst (i := i_Ho_header) (pc := 12) (v := 3) d_Ho_header_12 (by decide) ?_
    refine zc_S3 (i := i_Ho_header) (pc := 13) m_Ho_isWithin (ztb_of k_359 rfl) (ztb_of k_360 rfl) d_Ho_header_13 (Nat.le_of_ble_eq_true rfl) (Nat.le_of_ble_eq_true rfl) (Nat.le_of_ble_eq_true rfl) (Nat.le_of_ble_eq_true rfl) (c_Ho_isWithin ?_)
    refine zo_if_eq (i := i_Ho_header) (pc := 16) (tgt := 23) d_Ho_header_16 (by decide) (fun h16 => ?_) (fun h16 => ?_)
    · refine zo_iconst (i := i_Ho_header) (pc := 23) (v := 0) d_Ho_header_23 (by decide) ?_
      exact zt_callS (i := i_Ho_header) (pc := 24) (av := [.int 0]) hq hE m_Ho_requireArguments (ztb_of k_362 rfl) (ztb_of k_363 rfl) d_Ho_header_24 rfl (Nat.le_of_ble_eq_true rfl) (Nat.le_of_ble_eq_true rfl) (Nat.le_of_ble_eq_true rfl) (Nat.le_of_ble_eq_true rfl) rfl (t_Ho_requireArguments hnt rfl)
    · refine zo_iconst (i := i_Ho_header) (pc := 19) (v := 1) d_Ho_header_19 (by decide) ?_
      refine zo_goto (i := i_Ho_header) (pc := 20) (tgt := 24) d_Ho_header_20 (by decide) ?_
      exact absurd ⟨zb_n h7, zb_n h16⟩ hb
theorem t_Ho_tick_args {g : zG} {ws : va_W} (hnt : g.1.stackTraces = false) {o : Nat} {n : Int32} (hb : ¬ zwithin n 1 100 = true) : zCT g i_Ho_tick [.ref o, .int n] ws "java/lang/IllegalArgumentException" := by
  refine zCT.walk (by decide +kernel) rfl (Nat.le_of_ble_eq_true rfl) fun x0 hq hE => ?_
  refine zo_iload_n (i := i_Ho_tick) (pc := 0) d_Ho_tick_0 rfl ?_
  refine zo_iconst (i := i_Ho_tick) (pc := 1) (v := 1) d_Ho_tick_1 (by decide) ?_
  refine zo_bipush (i := i_Ho_tick) (pc := 2) (v := 100) d_Ho_tick_2 (by decide) ?_
  refine zc_S3 (i := i_Ho_tick) (pc := 4) m_Ho_isWithin (ztb_of k_359 rfl) (ztb_of k_360 rfl) d_Ho_tick_4 (Nat.le_of_ble_eq_true rfl) (Nat.le_of_ble_eq_true rfl) (Nat.le_of_ble_eq_true rfl) (Nat.le_of_ble_eq_true rfl) (c_Ho_isWithin ?_)
  exact zt_callS (i := i_Ho_tick) (pc := 7) (av := [.int (zb (zwithin n 1 100))]) hq hE m_Ho_requireArguments (ztb_of k_362 rfl) (ztb_of k_363 rfl) d_Ho_tick_7 rfl (Nat.le_of_ble_eq_true rfl) (Nat.le_of_ble_eq_true rfl) (Nat.le_of_ble_eq_true rfl) (Nat.le_of_ble_eq_true rfl) rfl (t_Ho_requireArguments hnt (zb_f hb))
theorem t_Ho_count_args {g : zG} {ws : va_W} (hnt : g.1.stackTraces = false) {o : Nat} {w : Int32} (hb : ¬ zwithin w 0 11 = true) : zCT g i_Ho_count [.ref o, .int w] ws "java/lang/IllegalArgumentException" := by
  refine zCT.walk (by decide +kernel) rfl (Nat.le_of_ble_eq_true rfl) fun x0 hq hE => ?_
  refine zo_iload_n (i := i_Ho_count) (pc := 0) d_Ho_count_0 rfl ?_
  refine zo_iconst (i := i_Ho_count) (pc := 1) (v := 0) d_Ho_count_1 (by decide) ?_
  refine zo_bipush (i := i_Ho_count) (pc := 2) (v := 11) d_Ho_count_2 (by decide) ?_
  refine zc_S3 (i := i_Ho_count) (pc := 4) m_Ho_isWithin (ztb_of k_359 rfl) (ztb_of k_360 rfl) d_Ho_count_4 (Nat.le_of_ble_eq_true rfl) (Nat.le_of_ble_eq_true rfl) (Nat.le_of_ble_eq_true rfl) (Nat.le_of_ble_eq_true rfl) (c_Ho_isWithin ?_)
  exact zt_callS (i := i_Ho_count) (pc := 7) (av := [.int (zb (zwithin w 0 11))]) hq hE m_Ho_requireArguments (ztb_of k_362 rfl) (ztb_of k_363 rfl) d_Ho_count_7 rfl (Nat.le_of_ble_eq_true rfl) (Nat.le_of_ble_eq_true rfl) (Nat.le_of_ble_eq_true rfl) (Nat.le_of_ble_eq_true rfl) rfl (t_Ho_requireArguments hnt (zb_f hb))
theorem t_Ho_router_down {g : zG} {ws : va_W} (hnt : g.1.stackTraces = false) {A : Nat → Nat} {q : hT} {R : va_W} (h : hH g A q R ws) {a n l z : Int32} (ha : zwithin a 1 254 = true) (hn : zwithin n 1 99 = true) (hl : zwithin l 0 1000 = true) (hz : zwithin z 0 99 = true) (hu : q.1.2.2.2.2.2.2 = true) : zCT g i_Ho_router [.ref (A 0), .int a, .int n, .int l, .int z] ws "java/lang/IllegalStateException" := by
  refine zCT.walk (by decide +kernel) rfl (Nat.le_of_ble_eq_true rfl) fun x0 hq hE => ?_
  obtain ⟨s, u, lo, ln, lr, lp, la, hd⟩ := q
  obtain ⟨ow, nb, ro, pf, pa, h1x, h2x, h3x, h4x, h5x, rfl, rfl, rfl, rfl, rfl, h6x, hs⟩ := h
  replace hs : zHas ws (hL g A s u ow nb ro pf pa hd R).flatten := hs
  have hu : s.2.2.2.2.2.2 = true := hu
  refine zo_iload_n (i := i_Ho_router) (pc := 0) d_Ho_router_0 rfl ?_
  refine zo_iconst (i := i_Ho_router) (pc := 1) (v := 1) d_Ho_router_1 (by decide) ?_
  refine zo_sipush (i := i_Ho_router) (pc := 2) (v := 254) d_Ho_router_2 (by decide) ?_
  refine zc_S3 (i := i_Ho_router) (pc := 5) m_Ho_isWithin (ztb_of k_359 rfl) (ztb_of k_360 rfl) d_Ho_router_5 (Nat.le_of_ble_eq_true rfl) (Nat.le_of_ble_eq_true rfl) (Nat.le_of_ble_eq_true rfl) (Nat.le_of_ble_eq_true rfl) (c_Ho_isWithin ?_)
  refine zo_if_eq (i := i_Ho_router) (pc := 8) (tgt := 40) d_Ho_router_8 (by decide) (fun h8 => False.elim (by first | exact absurd h8 ((zb_t ha)) | exact absurd ((zb_t ha)) h8)) (fun h8 => ?_)
  refine zo_iload_n (i := i_Ho_router) (pc := 11) d_Ho_router_11 rfl ?_
  refine zc_S1 (i := i_Ho_router) (pc := 12) m_Ho_isNumber (ztb_of k_509 rfl) (ztb_of k_510 rfl) d_Ho_router_12 (Nat.le_of_ble_eq_true rfl) (Nat.le_of_ble_eq_true rfl) (Nat.le_of_ble_eq_true rfl) (Nat.le_of_ble_eq_true rfl) (c_Ho_isNumber ?_)
  refine zo_if_eq (i := i_Ho_router) (pc := 15) (tgt := 40) d_Ho_router_15 (by decide) (fun h15 => False.elim (by first | exact absurd h15 ((zb_t hn)) | exact absurd ((zb_t hn)) h15)) (fun h15 => ?_)
  refine zo_iload_n (i := i_Ho_router) (pc := 18) d_Ho_router_18 rfl ?_
  refine zc_S1 (i := i_Ho_router) (pc := 19) m_Ho_isLife (ztb_of k_512 rfl) (ztb_of k_513 rfl) d_Ho_router_19 (Nat.le_of_ble_eq_true rfl) (Nat.le_of_ble_eq_true rfl) (Nat.le_of_ble_eq_true rfl) (Nat.le_of_ble_eq_true rfl) (c_Ho_isLife ?_)
  refine zo_if_eq (i := i_Ho_router) (pc := 22) (tgt := 40) d_Ho_router_22 (by decide) (fun h22 => False.elim (by first | exact absurd h22 ((zb_t hl)) | exact absurd ((zb_t hl)) h22)) (fun h22 => ?_)
  refine zo_iload (i := i_Ho_router) (pc := 25) d_Ho_router_25 rfl ?_
  refine zo_iconst (i := i_Ho_router) (pc := 27) (v := 0) d_Ho_router_27 (by decide) ?_
  refine zo_bipush (i := i_Ho_router) (pc := 28) (v := 99) d_Ho_router_28 (by decide) ?_
  refine zc_S3 (i := i_Ho_router) (pc := 30) m_Ho_isWithin (ztb_of k_359 rfl) (ztb_of k_360 rfl) d_Ho_router_30 (Nat.le_of_ble_eq_true rfl) (Nat.le_of_ble_eq_true rfl) (Nat.le_of_ble_eq_true rfl) (Nat.le_of_ble_eq_true rfl) (c_Ho_isWithin ?_)
  refine zo_if_eq (i := i_Ho_router) (pc := 33) (tgt := 40) d_Ho_router_33 (by decide) (fun h33 => False.elim (by first | exact absurd h33 ((zb_t hz)) | exact absurd ((zb_t hz)) h33)) (fun h33 => ?_)
  refine zo_iconst (i := i_Ho_router) (pc := 36) (v := 1) d_Ho_router_36 (by decide) ?_
  refine zo_goto (i := i_Ho_router) (pc := 37) (tgt := 41) d_Ho_router_37 (by decide) ?_
  refine zc_S1 (i := i_Ho_router) (pc := 41) m_Ho_requireArguments (ztb_of k_362 rfl) (ztb_of k_363 rfl) d_Ho_router_41 (Nat.le_of_ble_eq_true rfl) (Nat.le_of_ble_eq_true rfl) (Nat.le_of_ble_eq_true rfl) (Nat.le_of_ble_eq_true rfl) (c_Ho_requireArguments (by decide) ?_)
  refine zo_aload_n (i := i_Ho_router) (pc := 44) d_Ho_router_44 rfl rfl ?_
  exact zt_callV (i := i_Ho_router) (pc := 45) (av := []) 9 rfl hq hE m_Ho_requireUp (ztb_of k_515 rfl) (ztb_of k_517 rfl) s_Ho_requireUp d_Ho_router_45 rfl (hs.get (t := 0) rfl) (Nat.le_of_ble_eq_true rfl) (Nat.le_of_ble_eq_true rfl) (Nat.le_of_ble_eq_true rfl) (Nat.le_of_ble_eq_true rfl) rfl (t_Ho_requireUp hnt (hs.get (t := 0) rfl) hu)
theorem t_Ho_prefix_down {g : zG} {ws : va_W} (hnt : g.1.stackTraces = false) {A : Nat → Nat} {q : hT} {R : va_W} (h : hH g A q R ws) {p f v r : Int32} (ha : zwithin p 1 250 = true) (hn : zwithin f 0 3 = true) (hl : zwithin v 0 1000 = true) (hz : zwithin r 0 1000 = true) (hu : q.1.2.2.2.2.2.2 = true) : zCT g i_Ho_prefix [.ref (A 0), .int p, .int f, .int v, .int r] ws "java/lang/IllegalStateException" := by
  refine zCT.walk (by decide +kernel) rfl (Nat.le_of_ble_eq_true rfl) fun x0 hq hE => ?_
  obtain ⟨s, u, lo, ln, lr, lp, la, hd⟩ := q
  obtain ⟨ow, nb, ro, pf, pa, h1x, h2x, h3x, h4x, h5x, rfl, rfl, rfl, rfl, rfl, h6x, hs⟩ := h
  replace hs : zHas ws (hL g A s u ow nb ro pf pa hd R).flatten := hs
  have hu : s.2.2.2.2.2.2 = true := hu
  refine zo_iload_n (i := i_Ho_prefix) (pc := 0) d_Ho_prefix_0 rfl ?_
  refine zo_iconst (i := i_Ho_prefix) (pc := 1) (v := 1) d_Ho_prefix_1 (by decide) ?_
  refine zo_sipush (i := i_Ho_prefix) (pc := 2) (v := 250) d_Ho_prefix_2 (by decide) ?_
  refine zc_S3 (i := i_Ho_prefix) (pc := 5) m_Ho_isWithin (ztb_of k_359 rfl) (ztb_of k_360 rfl) d_Ho_prefix_5 (Nat.le_of_ble_eq_true rfl) (Nat.le_of_ble_eq_true rfl) (Nat.le_of_ble_eq_true rfl) (Nat.le_of_ble_eq_true rfl) (c_Ho_isWithin ?_)
  refine zo_if_eq (i := i_Ho_prefix) (pc := 8) (tgt := 39) d_Ho_prefix_8 (by decide) (fun h8 => False.elim (by first | exact absurd h8 ((zb_t ha)) | exact absurd ((zb_t ha)) h8)) (fun h8 => ?_)
  refine zo_iload_n (i := i_Ho_prefix) (pc := 11) d_Ho_prefix_11 rfl ?_
  refine zo_iconst (i := i_Ho_prefix) (pc := 12) (v := 0) d_Ho_prefix_12 (by decide) ?_
  refine zo_iconst (i := i_Ho_prefix) (pc := 13) (v := 3) d_Ho_prefix_13 (by decide) ?_
  refine zc_S3 (i := i_Ho_prefix) (pc := 14) m_Ho_isWithin (ztb_of k_359 rfl) (ztb_of k_360 rfl) d_Ho_prefix_14 (Nat.le_of_ble_eq_true rfl) (Nat.le_of_ble_eq_true rfl) (Nat.le_of_ble_eq_true rfl) (Nat.le_of_ble_eq_true rfl) (c_Ho_isWithin ?_)
  refine zo_if_eq (i := i_Ho_prefix) (pc := 17) (tgt := 39) d_Ho_prefix_17 (by decide) (fun h17 => False.elim (by first | exact absurd h17 ((zb_t hn)) | exact absurd ((zb_t hn)) h17)) (fun h17 => ?_)
  refine zo_iload_n (i := i_Ho_prefix) (pc := 20) d_Ho_prefix_20 rfl ?_
  refine zc_S1 (i := i_Ho_prefix) (pc := 21) m_Ho_isLife (ztb_of k_512 rfl) (ztb_of k_513 rfl) d_Ho_prefix_21 (Nat.le_of_ble_eq_true rfl) (Nat.le_of_ble_eq_true rfl) (Nat.le_of_ble_eq_true rfl) (Nat.le_of_ble_eq_true rfl) (c_Ho_isLife ?_)
  refine zo_if_eq (i := i_Ho_prefix) (pc := 24) (tgt := 39) d_Ho_prefix_24 (by decide) (fun h24 => False.elim (by first | exact absurd h24 ((zb_t hl)) | exact absurd ((zb_t hl)) h24)) (fun h24 => ?_)
  refine zo_iload (i := i_Ho_prefix) (pc := 27) d_Ho_prefix_27 rfl ?_
  refine zc_S1 (i := i_Ho_prefix) (pc := 29) m_Ho_isLife (ztb_of k_512 rfl) (ztb_of k_513 rfl) d_Ho_prefix_29 (Nat.le_of_ble_eq_true rfl) (Nat.le_of_ble_eq_true rfl) (Nat.le_of_ble_eq_true rfl) (Nat.le_of_ble_eq_true rfl) (c_Ho_isLife ?_)
  refine zo_if_eq (i := i_Ho_prefix) (pc := 32) (tgt := 39) d_Ho_prefix_32 (by decide) (fun h32 => False.elim (by first | exact absurd h32 ((zb_t hz)) | exact absurd ((zb_t hz)) h32)) (fun h32 => ?_)
  refine zo_iconst (i := i_Ho_prefix) (pc := 35) (v := 1) d_Ho_prefix_35 (by decide) ?_
  refine zo_goto (i := i_Ho_prefix) (pc := 36) (tgt := 40) d_Ho_prefix_36 (by decide) ?_
  refine zc_S1 (i := i_Ho_prefix) (pc := 40) m_Ho_requireArguments (ztb_of k_362 rfl) (ztb_of k_363 rfl) d_Ho_prefix_40 (Nat.le_of_ble_eq_true rfl) (Nat.le_of_ble_eq_true rfl) (Nat.le_of_ble_eq_true rfl) (Nat.le_of_ble_eq_true rfl) (c_Ho_requireArguments (by decide) ?_)
  refine zo_aload_n (i := i_Ho_prefix) (pc := 43) d_Ho_prefix_43 rfl rfl ?_
  exact zt_callV (i := i_Ho_prefix) (pc := 44) (av := []) 9 rfl hq hE m_Ho_requireUp (ztb_of k_515 rfl) (ztb_of k_517 rfl) s_Ho_requireUp d_Ho_prefix_44 rfl (hs.get (t := 0) rfl) (Nat.le_of_ble_eq_true rfl) (Nat.le_of_ble_eq_true rfl) (Nat.le_of_ble_eq_true rfl) (Nat.le_of_ble_eq_true rfl) rfl (t_Ho_requireUp hnt (hs.get (t := 0) rfl) hu)
theorem t_Ho_told_down {g : zG} {ws : va_W} (hnt : g.1.stackTraces = false) {A : Nat → Nat} {q : hT} {R : va_W} (h : hH g A q R ws) {t n fl : Int32} (ha : zaddr t = true) (hn : zwithin n 1 99 = true) (hl : zwithin fl 0 7 = true) (hu : q.1.2.2.2.2.2.2 = true) : zCT g i_Ho_told [.ref (A 0), .int t, .int n, .int fl] ws "java/lang/IllegalStateException" := by
  refine zCT.walk (by decide +kernel) rfl (Nat.le_of_ble_eq_true rfl) fun x0 hq hE => ?_
  obtain ⟨s, u, lo, ln, lr, lp, la, hd⟩ := q
  obtain ⟨ow, nb, ro, pf, pa, h1x, h2x, h3x, h4x, h5x, rfl, rfl, rfl, rfl, rfl, h6x, hs⟩ := h
  replace hs : zHas ws (hL g A s u ow nb ro pf pa hd R).flatten := hs
  have hu : s.2.2.2.2.2.2 = true := hu
  refine zo_iload_n (i := i_Ho_told) (pc := 0) d_Ho_told_0 rfl ?_
  refine zc_S1 (i := i_Ho_told) (pc := 1) m_Ho_isAddress (ztb_of k_652 rfl) (ztb_of k_653 rfl) d_Ho_told_1 (Nat.le_of_ble_eq_true rfl) (Nat.le_of_ble_eq_true rfl) (Nat.le_of_ble_eq_true rfl) (Nat.le_of_ble_eq_true rfl) (c_Ho_isAddress ?_)
  refine zo_if_eq (i := i_Ho_told) (pc := 4) (tgt := 28) d_Ho_told_4 (by decide) (fun h4 => False.elim (by first | exact absurd h4 ((zb_t ha)) | exact absurd ((zb_t ha)) h4)) (fun h4 => ?_)
  refine zo_iload_n (i := i_Ho_told) (pc := 7) d_Ho_told_7 rfl ?_
  refine zc_S1 (i := i_Ho_told) (pc := 8) m_Ho_isNumber (ztb_of k_509 rfl) (ztb_of k_510 rfl) d_Ho_told_8 (Nat.le_of_ble_eq_true rfl) (Nat.le_of_ble_eq_true rfl) (Nat.le_of_ble_eq_true rfl) (Nat.le_of_ble_eq_true rfl) (c_Ho_isNumber ?_)
  refine zo_if_eq (i := i_Ho_told) (pc := 11) (tgt := 28) d_Ho_told_11 (by decide) (fun h11 => False.elim (by first | exact absurd h11 ((zb_t hn)) | exact absurd ((zb_t hn)) h11)) (fun h11 => ?_)
  refine zo_iload_n (i := i_Ho_told) (pc := 14) d_Ho_told_14 rfl ?_
  refine zo_iconst (i := i_Ho_told) (pc := 15) (v := 0) d_Ho_told_15 (by decide) ?_
  refine zo_bipush (i := i_Ho_told) (pc := 16) (v := 7) d_Ho_told_16 (by decide) ?_
  refine zc_S3 (i := i_Ho_told) (pc := 18) m_Ho_isWithin (ztb_of k_359 rfl) (ztb_of k_360 rfl) d_Ho_told_18 (Nat.le_of_ble_eq_true rfl) (Nat.le_of_ble_eq_true rfl) (Nat.le_of_ble_eq_true rfl) (Nat.le_of_ble_eq_true rfl) (c_Ho_isWithin ?_)
  refine zo_if_eq (i := i_Ho_told) (pc := 21) (tgt := 28) d_Ho_told_21 (by decide) (fun h21 => False.elim (by first | exact absurd h21 ((zb_t hl)) | exact absurd ((zb_t hl)) h21)) (fun h21 => ?_)
  refine zo_iconst (i := i_Ho_told) (pc := 24) (v := 1) d_Ho_told_24 (by decide) ?_
  refine zo_goto (i := i_Ho_told) (pc := 25) (tgt := 29) d_Ho_told_25 (by decide) ?_
  refine zc_S1 (i := i_Ho_told) (pc := 29) m_Ho_requireArguments (ztb_of k_362 rfl) (ztb_of k_363 rfl) d_Ho_told_29 (Nat.le_of_ble_eq_true rfl) (Nat.le_of_ble_eq_true rfl) (Nat.le_of_ble_eq_true rfl) (Nat.le_of_ble_eq_true rfl) (c_Ho_requireArguments (by decide) ?_)
  refine zo_aload_n (i := i_Ho_told) (pc := 32) d_Ho_told_32 rfl rfl ?_
  exact zt_callV (i := i_Ho_told) (pc := 33) (av := []) 9 rfl hq hE m_Ho_requireUp (ztb_of k_515 rfl) (ztb_of k_517 rfl) s_Ho_requireUp d_Ho_told_33 rfl (hs.get (t := 0) rfl) (Nat.le_of_ble_eq_true rfl) (Nat.le_of_ble_eq_true rfl) (Nat.le_of_ble_eq_true rfl) (Nat.le_of_ble_eq_true rfl) rfl (t_Ho_requireUp hnt (hs.get (t := 0) rfl) hu)
theorem t_Ho_send_down {g : zG} {ws : va_W} (hnt : g.1.stackTraces = false) {A : Nat → Nat} {q : hT} {R : va_W} (h : hH g A q R ws) {t n : Int32} (ha : zaddr t = true) (hn : zwithin n 1 40 = true) (hu : q.1.2.2.2.2.2.2 = true) : zCT g i_Ho_send [.ref (A 0), .int t, .int n] ws "java/lang/IllegalStateException" := by
  refine zCT.walk (by decide +kernel) rfl (Nat.le_of_ble_eq_true rfl) fun x0 hq hE => ?_
  obtain ⟨s, u, lo, ln, lr, lp, la, hd⟩ := q
  obtain ⟨ow, nb, ro, pf, pa, h1x, h2x, h3x, h4x, h5x, rfl, rfl, rfl, rfl, rfl, h6x, hs⟩ := h
  replace hs : zHas ws (hL g A s u ow nb ro pf pa hd R).flatten := hs
  have hu : s.2.2.2.2.2.2 = true := hu
  refine zo_iload_n (i := i_Ho_send) (pc := 0) d_Ho_send_0 rfl ?_
  refine zc_S1 (i := i_Ho_send) (pc := 1) m_Ho_isAddress (ztb_of k_652 rfl) (ztb_of k_653 rfl) d_Ho_send_1 (Nat.le_of_ble_eq_true rfl) (Nat.le_of_ble_eq_true rfl) (Nat.le_of_ble_eq_true rfl) (Nat.le_of_ble_eq_true rfl) (c_Ho_isAddress ?_)
  refine zo_if_eq (i := i_Ho_send) (pc := 4) (tgt := 21) d_Ho_send_4 (by decide) (fun h4 => False.elim (by first | exact absurd h4 ((zb_t ha)) | exact absurd ((zb_t ha)) h4)) (fun h4 => ?_)
  refine zo_iload_n (i := i_Ho_send) (pc := 7) d_Ho_send_7 rfl ?_
  refine zo_iconst (i := i_Ho_send) (pc := 8) (v := 1) d_Ho_send_8 (by decide) ?_
  refine zo_bipush (i := i_Ho_send) (pc := 9) (v := 40) d_Ho_send_9 (by decide) ?_
  refine zc_S3 (i := i_Ho_send) (pc := 11) m_Ho_isWithin (ztb_of k_359 rfl) (ztb_of k_360 rfl) d_Ho_send_11 (Nat.le_of_ble_eq_true rfl) (Nat.le_of_ble_eq_true rfl) (Nat.le_of_ble_eq_true rfl) (Nat.le_of_ble_eq_true rfl) (c_Ho_isWithin ?_)
  refine zo_if_eq (i := i_Ho_send) (pc := 14) (tgt := 21) d_Ho_send_14 (by decide) (fun h14 => False.elim (by first | exact absurd h14 ((zb_t hn)) | exact absurd ((zb_t hn)) h14)) (fun h14 => ?_)
  refine zo_iconst (i := i_Ho_send) (pc := 17) (v := 1) d_Ho_send_17 (by decide) ?_
  refine zo_goto (i := i_Ho_send) (pc := 18) (tgt := 22) d_Ho_send_18 (by decide) ?_
  refine zc_S1 (i := i_Ho_send) (pc := 22) m_Ho_requireArguments (ztb_of k_362 rfl) (ztb_of k_363 rfl) d_Ho_send_22 (Nat.le_of_ble_eq_true rfl) (Nat.le_of_ble_eq_true rfl) (Nat.le_of_ble_eq_true rfl) (Nat.le_of_ble_eq_true rfl) (c_Ho_requireArguments (by decide) ?_)
  refine zo_aload_n (i := i_Ho_send) (pc := 25) d_Ho_send_25 rfl rfl ?_
  exact zt_callV (i := i_Ho_send) (pc := 26) (av := []) 9 rfl hq hE m_Ho_requireUp (ztb_of k_515 rfl) (ztb_of k_517 rfl) s_Ho_requireUp d_Ho_send_26 rfl (hs.get (t := 0) rfl) (Nat.le_of_ble_eq_true rfl) (Nat.le_of_ble_eq_true rfl) (Nat.le_of_ble_eq_true rfl) (Nat.le_of_ble_eq_true rfl) rfl (t_Ho_requireUp hnt (hs.get (t := 0) rfl) hu)
theorem t_Ho_smaller_down {g : zG} {ws : va_W} (hnt : g.1.stackTraces = false) {A : Nat → Nat} {q : hT} {R : va_W} (h : hH g A q R ws) {t n : Int32} (ha : zaddr t = true) (hn : zwithin n 0 40 = true) (hu : q.1.2.2.2.2.2.2 = true) : zCT g i_Ho_smaller [.ref (A 0), .int t, .int n] ws "java/lang/IllegalStateException" := by
  refine zCT.walk (by decide +kernel) rfl (Nat.le_of_ble_eq_true rfl) fun x0 hq hE => ?_
  obtain ⟨s, u, lo, ln, lr, lp, la, hd⟩ := q
  obtain ⟨ow, nb, ro, pf, pa, h1x, h2x, h3x, h4x, h5x, rfl, rfl, rfl, rfl, rfl, h6x, hs⟩ := h
  replace hs : zHas ws (hL g A s u ow nb ro pf pa hd R).flatten := hs
  have hu : s.2.2.2.2.2.2 = true := hu
  refine zo_iload_n (i := i_Ho_smaller) (pc := 0) d_Ho_smaller_0 rfl ?_
  refine zc_S1 (i := i_Ho_smaller) (pc := 1) m_Ho_isAddress (ztb_of k_652 rfl) (ztb_of k_653 rfl) d_Ho_smaller_1 (Nat.le_of_ble_eq_true rfl) (Nat.le_of_ble_eq_true rfl) (Nat.le_of_ble_eq_true rfl) (Nat.le_of_ble_eq_true rfl) (c_Ho_isAddress ?_)
  refine zo_if_eq (i := i_Ho_smaller) (pc := 4) (tgt := 21) d_Ho_smaller_4 (by decide) (fun h4 => False.elim (by first | exact absurd h4 ((zb_t ha)) | exact absurd ((zb_t ha)) h4)) (fun h4 => ?_)
  refine zo_iload_n (i := i_Ho_smaller) (pc := 7) d_Ho_smaller_7 rfl ?_
  refine zo_iconst (i := i_Ho_smaller) (pc := 8) (v := 0) d_Ho_smaller_8 (by decide) ?_
  refine zo_bipush (i := i_Ho_smaller) (pc := 9) (v := 40) d_Ho_smaller_9 (by decide) ?_
  refine zc_S3 (i := i_Ho_smaller) (pc := 11) m_Ho_isWithin (ztb_of k_359 rfl) (ztb_of k_360 rfl) d_Ho_smaller_11 (Nat.le_of_ble_eq_true rfl) (Nat.le_of_ble_eq_true rfl) (Nat.le_of_ble_eq_true rfl) (Nat.le_of_ble_eq_true rfl) (c_Ho_isWithin ?_)
  refine zo_if_eq (i := i_Ho_smaller) (pc := 14) (tgt := 21) d_Ho_smaller_14 (by decide) (fun h14 => False.elim (by first | exact absurd h14 ((zb_t hn)) | exact absurd ((zb_t hn)) h14)) (fun h14 => ?_)
  refine zo_iconst (i := i_Ho_smaller) (pc := 17) (v := 1) d_Ho_smaller_17 (by decide) ?_
  refine zo_goto (i := i_Ho_smaller) (pc := 18) (tgt := 22) d_Ho_smaller_18 (by decide) ?_
  refine zc_S1 (i := i_Ho_smaller) (pc := 22) m_Ho_requireArguments (ztb_of k_362 rfl) (ztb_of k_363 rfl) d_Ho_smaller_22 (Nat.le_of_ble_eq_true rfl) (Nat.le_of_ble_eq_true rfl) (Nat.le_of_ble_eq_true rfl) (Nat.le_of_ble_eq_true rfl) (c_Ho_requireArguments (by decide) ?_)
  refine zo_aload_n (i := i_Ho_smaller) (pc := 25) d_Ho_smaller_25 rfl rfl ?_
  exact zt_callV (i := i_Ho_smaller) (pc := 26) (av := []) 9 rfl hq hE m_Ho_requireUp (ztb_of k_515 rfl) (ztb_of k_517 rfl) s_Ho_requireUp d_Ho_smaller_26 rfl (hs.get (t := 0) rfl) (Nat.le_of_ble_eq_true rfl) (Nat.le_of_ble_eq_true rfl) (Nat.le_of_ble_eq_true rfl) (Nat.le_of_ble_eq_true rfl) rfl (t_Ho_requireUp hnt (hs.get (t := 0) rfl) hu)
theorem t_Ho_asked_down {g : zG} {ws : va_W} (hnt : g.1.stackTraces = false) {A : Nat → Nat} {q : hT} {R : va_W} (h : hH g A q R ws) {f t n : Int32} (hf : f = 0 ∨ zaddr f = true) (ha : zaddr t = true) (hn : zwithin n 1 99 = true) (hu : q.1.2.2.2.2.2.2 = true) : zCT g i_Ho_asked [.ref (A 0), .int f, .int t, .int n] ws "java/lang/IllegalStateException" := by
  refine zCT.walk (by decide +kernel) rfl (Nat.le_of_ble_eq_true rfl) fun x0 hq hE => ?_
  obtain ⟨s, u, lo, ln, lr, lp, la, hd⟩ := q
  obtain ⟨ow, nb, ro, pf, pa, h1x, h2x, h3x, h4x, h5x, rfl, rfl, rfl, rfl, rfl, h6x, hs⟩ := h
  replace hs : zHas ws (hL g A s u ow nb ro pf pa hd R).flatten := hs
  have hu : s.2.2.2.2.2.2 = true := hu
  refine zo_iload_n (i := i_Ho_asked) (pc := 0) d_Ho_asked_0 rfl ?_
  refine zo_if_eq (i := i_Ho_asked) (pc := 1) (tgt := 11) d_Ho_asked_1 (by decide) (fun h1 => ?_) (fun h1 => ?_)
  · refine zo_iload_n (i := i_Ho_asked) (pc := 11) d_Ho_asked_11 rfl ?_
    refine zc_S1 (i := i_Ho_asked) (pc := 12) m_Ho_isAddress (ztb_of k_652 rfl) (ztb_of k_653 rfl) d_Ho_asked_12 (Nat.le_of_ble_eq_true rfl) (Nat.le_of_ble_eq_true rfl) (Nat.le_of_ble_eq_true rfl) (Nat.le_of_ble_eq_true rfl) (c_Ho_isAddress ?_)
    refine zo_if_eq (i := i_Ho_asked) (pc := 15) (tgt := 29) d_Ho_asked_15 (by decide) (fun h15 => False.elim (by first | exact absurd h15 ((zb_t ha)) | exact absurd ((zb_t ha)) h15)) (fun h15 => ?_)
    refine zo_iload_n (i := i_Ho_asked) (pc := 18) d_Ho_asked_18 rfl ?_
    refine zc_S1 (i := i_Ho_asked) (pc := 19) m_Ho_isNumber (ztb_of k_509 rfl) (ztb_of k_510 rfl) d_Ho_asked_19 (Nat.le_of_ble_eq_true rfl) (Nat.le_of_ble_eq_true rfl) (Nat.le_of_ble_eq_true rfl) (Nat.le_of_ble_eq_true rfl) (c_Ho_isNumber ?_)
    refine zo_if_eq (i := i_Ho_asked) (pc := 22) (tgt := 29) d_Ho_asked_22 (by decide) (fun h22 => False.elim (by first | exact absurd h22 ((zb_t hn)) | exact absurd ((zb_t hn)) h22)) (fun h22 => ?_)
    refine zo_iconst (i := i_Ho_asked) (pc := 25) (v := 1) d_Ho_asked_25 (by decide) ?_
    refine zo_goto (i := i_Ho_asked) (pc := 26) (tgt := 30) d_Ho_asked_26 (by decide) ?_
    refine zc_S1 (i := i_Ho_asked) (pc := 30) m_Ho_requireArguments (ztb_of k_362 rfl) (ztb_of k_363 rfl) d_Ho_asked_30 (Nat.le_of_ble_eq_true rfl) (Nat.le_of_ble_eq_true rfl) (Nat.le_of_ble_eq_true rfl) (Nat.le_of_ble_eq_true rfl) (c_Ho_requireArguments (by decide) ?_)
    refine zo_aload_n (i := i_Ho_asked) (pc := 33) d_Ho_asked_33 rfl rfl ?_
    exact zt_callV (i := i_Ho_asked) (pc := 34) (av := []) 9 rfl hq hE m_Ho_requireUp (ztb_of k_515 rfl) (ztb_of k_517 rfl) s_Ho_requireUp d_Ho_asked_34 rfl (hs.get (t := 0) rfl) (Nat.le_of_ble_eq_true rfl) (Nat.le_of_ble_eq_true rfl) (Nat.le_of_ble_eq_true rfl) (Nat.le_of_ble_eq_true rfl) rfl (t_Ho_requireUp hnt (hs.get (t := 0) rfl) hu)
  · refine zo_iload_n (i := i_Ho_asked) (pc := 4) d_Ho_asked_4 rfl ?_
    refine zc_S1 (i := i_Ho_asked) (pc := 5) m_Ho_isAddress (ztb_of k_652 rfl) (ztb_of k_653 rfl) d_Ho_asked_5 (Nat.le_of_ble_eq_true rfl) (Nat.le_of_ble_eq_true rfl) (Nat.le_of_ble_eq_true rfl) (Nat.le_of_ble_eq_true rfl) (c_Ho_isAddress ?_)
    refine zo_if_eq (i := i_Ho_asked) (pc := 8) (tgt := 29) d_Ho_asked_8 (by decide) (fun h8 => False.elim (by first | exact absurd h8 ((zb_t (by rcases hf with z | z; exact absurd z h1; exact z))) | exact absurd ((zb_t (by rcases hf with z | z; exact absurd z h1; exact z))) h8)) (fun h8 => ?_)
    refine zo_iload_n (i := i_Ho_asked) (pc := 11) d_Ho_asked_11 rfl ?_
    refine zc_S1 (i := i_Ho_asked) (pc := 12) m_Ho_isAddress (ztb_of k_652 rfl) (ztb_of k_653 rfl) d_Ho_asked_12 (Nat.le_of_ble_eq_true rfl) (Nat.le_of_ble_eq_true rfl) (Nat.le_of_ble_eq_true rfl) (Nat.le_of_ble_eq_true rfl) (c_Ho_isAddress ?_)
    refine zo_if_eq (i := i_Ho_asked) (pc := 15) (tgt := 29) d_Ho_asked_15 (by decide) (fun h15 => False.elim (by first | exact absurd h15 ((zb_t ha)) | exact absurd ((zb_t ha)) h15)) (fun h15 => ?_)
    refine zo_iload_n (i := i_Ho_asked) (pc := 18) d_Ho_asked_18 rfl ?_
    refine zc_S1 (i := i_Ho_asked) (pc := 19) m_Ho_isNumber (ztb_of k_509 rfl) (ztb_of k_510 rfl) d_Ho_asked_19 (Nat.le_of_ble_eq_true rfl) (Nat.le_of_ble_eq_true rfl) (Nat.le_of_ble_eq_true rfl) (Nat.le_of_ble_eq_true rfl) (c_Ho_isNumber ?_)
    refine zo_if_eq (i := i_Ho_asked) (pc := 22) (tgt := 29) d_Ho_asked_22 (by decide) (fun h22 => False.elim (by first | exact absurd h22 ((zb_t hn)) | exact absurd ((zb_t hn)) h22)) (fun h22 => ?_)
    refine zo_iconst (i := i_Ho_asked) (pc := 25) (v := 1) d_Ho_asked_25 (by decide) ?_
    refine zo_goto (i := i_Ho_asked) (pc := 26) (tgt := 30) d_Ho_asked_26 (by decide) ?_
    refine zc_S1 (i := i_Ho_asked) (pc := 30) m_Ho_requireArguments (ztb_of k_362 rfl) (ztb_of k_363 rfl) d_Ho_asked_30 (Nat.le_of_ble_eq_true rfl) (Nat.le_of_ble_eq_true rfl) (Nat.le_of_ble_eq_true rfl) (Nat.le_of_ble_eq_true rfl) (c_Ho_requireArguments (by decide) ?_)
    refine zo_aload_n (i := i_Ho_asked) (pc := 33) d_Ho_asked_33 rfl rfl ?_
    exact zt_callV (i := i_Ho_asked) (pc := 34) (av := []) 9 rfl hq hE m_Ho_requireUp (ztb_of k_515 rfl) (ztb_of k_517 rfl) s_Ho_requireUp d_Ho_asked_34 rfl (hs.get (t := 0) rfl) (Nat.le_of_ble_eq_true rfl) (Nat.le_of_ble_eq_true rfl) (Nat.le_of_ble_eq_true rfl) (Nat.le_of_ble_eq_true rfl) rfl (t_Ho_requireUp hnt (hs.get (t := 0) rfl) hu)
theorem t_Ho_come_down {g : zG} {ws : va_W} (hnt : g.1.stackTraces = false) {A : Nat → Nat} {q : hT} {R : va_W} (h : hH g A q R ws) {f t : Int32} (hf : f = 0 ∨ zaddr f = true) (ha : t = 65535 ∨ zaddr t = true) (hu : q.1.2.2.2.2.2.2 = true) : zCT g i_Ho_come [.ref (A 0), .int f, .int t] ws "java/lang/IllegalStateException" := by
  refine zCT.walk (by decide +kernel) rfl (Nat.le_of_ble_eq_true rfl) fun x0 hq hE => ?_
  obtain ⟨s, u, lo, ln, lr, lp, la, hd⟩ := q
  obtain ⟨ow, nb, ro, pf, pa, h1x, h2x, h3x, h4x, h5x, rfl, rfl, rfl, rfl, rfl, h6x, hs⟩ := h
  replace hs : zHas ws (hL g A s u ow nb ro pf pa hd R).flatten := hs
  have hu : s.2.2.2.2.2.2 = true := hu
  refine zo_iload_n (i := i_Ho_come) (pc := 0) d_Ho_come_0 rfl ?_
  refine zo_if_eq (i := i_Ho_come) (pc := 1) (tgt := 11) d_Ho_come_1 (by decide) (fun h1 => ?_) (fun h1 => ?_)
  · refine zo_iload_n (i := i_Ho_come) (pc := 11) d_Ho_come_11 rfl ?_
    refine zo_ldc (i := i_Ho_come) (pc := 12) d_Ho_come_12 (ztb_of k_256 rfl) ?_
    refine zo_icmp_eq (i := i_Ho_come) (pc := 14) (tgt := 24) d_Ho_come_14 (by decide) (fun h14 => ?_) (fun h14 => ?_)
    · refine zo_iconst (i := i_Ho_come) (pc := 24) (v := 1) d_Ho_come_24 (by decide) ?_
      refine zo_goto (i := i_Ho_come) (pc := 25) (tgt := 29) d_Ho_come_25 (by decide) ?_
      refine zc_S1 (i := i_Ho_come) (pc := 29) m_Ho_requireArguments (ztb_of k_362 rfl) (ztb_of k_363 rfl) d_Ho_come_29 (Nat.le_of_ble_eq_true rfl) (Nat.le_of_ble_eq_true rfl) (Nat.le_of_ble_eq_true rfl) (Nat.le_of_ble_eq_true rfl) (c_Ho_requireArguments (by decide) ?_)
      refine zo_aload_n (i := i_Ho_come) (pc := 32) d_Ho_come_32 rfl rfl ?_
      exact zt_callV (i := i_Ho_come) (pc := 33) (av := []) 9 rfl hq hE m_Ho_requireUp (ztb_of k_515 rfl) (ztb_of k_517 rfl) s_Ho_requireUp d_Ho_come_33 rfl (hs.get (t := 0) rfl) (Nat.le_of_ble_eq_true rfl) (Nat.le_of_ble_eq_true rfl) (Nat.le_of_ble_eq_true rfl) (Nat.le_of_ble_eq_true rfl) rfl (t_Ho_requireUp hnt (hs.get (t := 0) rfl) hu)
    · refine zo_iload_n (i := i_Ho_come) (pc := 17) d_Ho_come_17 rfl ?_
      refine zc_S1 (i := i_Ho_come) (pc := 18) m_Ho_isAddress (ztb_of k_652 rfl) (ztb_of k_653 rfl) d_Ho_come_18 (Nat.le_of_ble_eq_true rfl) (Nat.le_of_ble_eq_true rfl) (Nat.le_of_ble_eq_true rfl) (Nat.le_of_ble_eq_true rfl) (c_Ho_isAddress ?_)
      refine zo_if_eq (i := i_Ho_come) (pc := 21) (tgt := 28) d_Ho_come_21 (by decide) (fun h21 => False.elim (by first | exact absurd h21 ((zb_t (by rcases ha with z | z; exact absurd z h14; exact z))) | exact absurd ((zb_t (by rcases ha with z | z; exact absurd z h14; exact z))) h21)) (fun h21 => ?_)
      refine zo_iconst (i := i_Ho_come) (pc := 24) (v := 1) d_Ho_come_24 (by decide) ?_
      refine zo_goto (i := i_Ho_come) (pc := 25) (tgt := 29) d_Ho_come_25 (by decide) ?_
      refine zc_S1 (i := i_Ho_come) (pc := 29) m_Ho_requireArguments (ztb_of k_362 rfl) (ztb_of k_363 rfl) d_Ho_come_29 (Nat.le_of_ble_eq_true rfl) (Nat.le_of_ble_eq_true rfl) (Nat.le_of_ble_eq_true rfl) (Nat.le_of_ble_eq_true rfl) (c_Ho_requireArguments (by decide) ?_)
      refine zo_aload_n (i := i_Ho_come) (pc := 32) d_Ho_come_32 rfl rfl ?_
      exact zt_callV (i := i_Ho_come) (pc := 33) (av := []) 9 rfl hq hE m_Ho_requireUp (ztb_of k_515 rfl) (ztb_of k_517 rfl) s_Ho_requireUp d_Ho_come_33 rfl (hs.get (t := 0) rfl) (Nat.le_of_ble_eq_true rfl) (Nat.le_of_ble_eq_true rfl) (Nat.le_of_ble_eq_true rfl) (Nat.le_of_ble_eq_true rfl) rfl (t_Ho_requireUp hnt (hs.get (t := 0) rfl) hu)
  · refine zo_iload_n (i := i_Ho_come) (pc := 4) d_Ho_come_4 rfl ?_
    refine zc_S1 (i := i_Ho_come) (pc := 5) m_Ho_isAddress (ztb_of k_652 rfl) (ztb_of k_653 rfl) d_Ho_come_5 (Nat.le_of_ble_eq_true rfl) (Nat.le_of_ble_eq_true rfl) (Nat.le_of_ble_eq_true rfl) (Nat.le_of_ble_eq_true rfl) (c_Ho_isAddress ?_)
    refine zo_if_eq (i := i_Ho_come) (pc := 8) (tgt := 28) d_Ho_come_8 (by decide) (fun h8 => False.elim (by first | exact absurd h8 ((zb_t (by rcases hf with z | z; exact absurd z h1; exact z))) | exact absurd ((zb_t (by rcases hf with z | z; exact absurd z h1; exact z))) h8)) (fun h8 => ?_)
    refine zo_iload_n (i := i_Ho_come) (pc := 11) d_Ho_come_11 rfl ?_
    refine zo_ldc (i := i_Ho_come) (pc := 12) d_Ho_come_12 (ztb_of k_256 rfl) ?_
    refine zo_icmp_eq (i := i_Ho_come) (pc := 14) (tgt := 24) d_Ho_come_14 (by decide) (fun h14 => ?_) (fun h14 => ?_)
    · refine zo_iconst (i := i_Ho_come) (pc := 24) (v := 1) d_Ho_come_24 (by decide) ?_
      refine zo_goto (i := i_Ho_come) (pc := 25) (tgt := 29) d_Ho_come_25 (by decide) ?_
      refine zc_S1 (i := i_Ho_come) (pc := 29) m_Ho_requireArguments (ztb_of k_362 rfl) (ztb_of k_363 rfl) d_Ho_come_29 (Nat.le_of_ble_eq_true rfl) (Nat.le_of_ble_eq_true rfl) (Nat.le_of_ble_eq_true rfl) (Nat.le_of_ble_eq_true rfl) (c_Ho_requireArguments (by decide) ?_)
      refine zo_aload_n (i := i_Ho_come) (pc := 32) d_Ho_come_32 rfl rfl ?_
      exact zt_callV (i := i_Ho_come) (pc := 33) (av := []) 9 rfl hq hE m_Ho_requireUp (ztb_of k_515 rfl) (ztb_of k_517 rfl) s_Ho_requireUp d_Ho_come_33 rfl (hs.get (t := 0) rfl) (Nat.le_of_ble_eq_true rfl) (Nat.le_of_ble_eq_true rfl) (Nat.le_of_ble_eq_true rfl) (Nat.le_of_ble_eq_true rfl) rfl (t_Ho_requireUp hnt (hs.get (t := 0) rfl) hu)
    · refine zo_iload_n (i := i_Ho_come) (pc := 17) d_Ho_come_17 rfl ?_
      refine zc_S1 (i := i_Ho_come) (pc := 18) m_Ho_isAddress (ztb_of k_652 rfl) (ztb_of k_653 rfl) d_Ho_come_18 (Nat.le_of_ble_eq_true rfl) (Nat.le_of_ble_eq_true rfl) (Nat.le_of_ble_eq_true rfl) (Nat.le_of_ble_eq_true rfl) (c_Ho_isAddress ?_)
      refine zo_if_eq (i := i_Ho_come) (pc := 21) (tgt := 28) d_Ho_come_21 (by decide) (fun h21 => False.elim (by first | exact absurd h21 ((zb_t (by rcases ha with z | z; exact absurd z h14; exact z))) | exact absurd ((zb_t (by rcases ha with z | z; exact absurd z h14; exact z))) h21)) (fun h21 => ?_)
      refine zo_iconst (i := i_Ho_come) (pc := 24) (v := 1) d_Ho_come_24 (by decide) ?_
      refine zo_goto (i := i_Ho_come) (pc := 25) (tgt := 29) d_Ho_come_25 (by decide) ?_
      refine zc_S1 (i := i_Ho_come) (pc := 29) m_Ho_requireArguments (ztb_of k_362 rfl) (ztb_of k_363 rfl) d_Ho_come_29 (Nat.le_of_ble_eq_true rfl) (Nat.le_of_ble_eq_true rfl) (Nat.le_of_ble_eq_true rfl) (Nat.le_of_ble_eq_true rfl) (c_Ho_requireArguments (by decide) ?_)
      refine zo_aload_n (i := i_Ho_come) (pc := 32) d_Ho_come_32 rfl rfl ?_
      exact zt_callV (i := i_Ho_come) (pc := 33) (av := []) 9 rfl hq hE m_Ho_requireUp (ztb_of k_515 rfl) (ztb_of k_517 rfl) s_Ho_requireUp d_Ho_come_33 rfl (hs.get (t := 0) rfl) (Nat.le_of_ble_eq_true rfl) (Nat.le_of_ble_eq_true rfl) (Nat.le_of_ble_eq_true rfl) (Nat.le_of_ble_eq_true rfl) rfl (t_Ho_requireUp hnt (hs.get (t := 0) rfl) hu)
