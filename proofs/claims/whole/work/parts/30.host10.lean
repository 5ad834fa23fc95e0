/-! The host: asked, told, and a new one (walks by a program, gen30.py). -/
theorem c_Ho_asked {g : zG} {ws : va_W} {post : Option Value → va_W → Prop} {A : Nat → Nat} {q : hT} {R : va_W} (h : hH g A q R ws) {f t n : Int32} (hf0 : f = 0 ∨ zaddr f = true) (ht : zaddr t = true) (hn : zwithin n 1 99 = true) (hu : q.1.2.2.2.2.2.2 = false) (k : ∀ w, hH g A (askedT q f t n) R w → post none w) : zC g i_Ho_asked [.ref (A 0), .int f, .int t, .int n] ws post := by
  refine zC.intro (by decide +kernel) rfl (Nat.le_of_ble_eq_true rfl) fun x0 hq => ?_
  have h0 := h
  obtain ⟨s, u, lo, ln, lr, lp, la, hd⟩ := q
  obtain ⟨ow, nb, ro, pf, pa, h1, h2, h3, h4, h5, rfl, rfl, rfl, rfl, rfl, h6, hs⟩ := h
  replace hs : zHas ws (hL g A s u ow nb ro pf pa hd R).flatten := hs
  have hu : s.2.2.2.2.2.2 = false := hu
  have hfs := find_snd (fun e => decide (e.1 = t)) ow.2
  cases hf : ow.2.find? (fun e => decide (e.2.1 = t)) with
  | none =>
    rw [hf] at hfs
    refine zo_iload_n (i := i_Ho_asked) (pc := 0) d_Ho_asked_0 rfl ?_
    refine zo_if_eq (i := i_Ho_asked) (pc := 1) (tgt := 11) d_Ho_asked_1 (by decide) (fun v1 => ?_) (fun v1 => ?_)
    · refine zo_iload_n (i := i_Ho_asked) (pc := 11) d_Ho_asked_11 rfl ?_
      refine zc_S1 (i := i_Ho_asked) (pc := 12) m_Ho_isAddress (ztb_of k_652 rfl) (ztb_of k_653 rfl) d_Ho_asked_12 (Nat.le_of_ble_eq_true rfl) (Nat.le_of_ble_eq_true rfl) (Nat.le_of_ble_eq_true rfl) (Nat.le_of_ble_eq_true rfl) (c_Ho_isAddress ?_)
      refine zo_if_eq (i := i_Ho_asked) (pc := 15) (tgt := 29) d_Ho_asked_15 (by decide) (fun v15 => False.elim (by first | exact absurd v15 ((zb_t ht)) | exact absurd ((zb_t ht)) v15)) (fun v15 => ?_)
      refine zo_iload_n (i := i_Ho_asked) (pc := 18) d_Ho_asked_18 rfl ?_
      refine zc_S1 (i := i_Ho_asked) (pc := 19) m_Ho_isNumber (ztb_of k_509 rfl) (ztb_of k_510 rfl) d_Ho_asked_19 (Nat.le_of_ble_eq_true rfl) (Nat.le_of_ble_eq_true rfl) (Nat.le_of_ble_eq_true rfl) (Nat.le_of_ble_eq_true rfl) (c_Ho_isNumber ?_)
      refine zo_if_eq (i := i_Ho_asked) (pc := 22) (tgt := 29) d_Ho_asked_22 (by decide) (fun v22 => False.elim (by first | exact absurd v22 ((zb_t hn)) | exact absurd ((zb_t hn)) v22)) (fun v22 => ?_)
      refine zo_iconst (i := i_Ho_asked) (pc := 25) (v := 1) d_Ho_asked_25 (by decide) ?_
      refine zo_goto (i := i_Ho_asked) (pc := 26) (tgt := 30) d_Ho_asked_26 (by decide) ?_
      refine zc_S1 (i := i_Ho_asked) (pc := 30) m_Ho_requireArguments (ztb_of k_362 rfl) (ztb_of k_363 rfl) d_Ho_asked_30 (Nat.le_of_ble_eq_true rfl) (Nat.le_of_ble_eq_true rfl) (Nat.le_of_ble_eq_true rfl) (Nat.le_of_ble_eq_true rfl) (c_Ho_requireArguments (by decide) ?_)
      refine zo_aload_n (i := i_Ho_asked) (pc := 33) d_Ho_asked_33 rfl rfl ?_
      refine zc_V0 (i := i_Ho_asked) (pc := 34) 9 rfl m_Ho_requireUp (ztb_of k_515 rfl) (ztb_of k_517 rfl) s_Ho_requireUp d_Ho_asked_34 (Nat.le_of_ble_eq_true rfl) (Nat.le_of_ble_eq_true rfl) (Nat.le_of_ble_eq_true rfl) (Nat.le_of_ble_eq_true rfl) (hs.get (t := 0) rfl) (c_Ho_requireUp (A := A) (s := s) (hs.get (t := 0) rfl) hu ?_)
      refine zo_aload_n (i := i_Ho_asked) (pc := 37) d_Ho_asked_37 rfl rfl ?_
      refine zo_get (i := i_Ho_asked) (pc := 38) 9 2 rfl zok_Ho (Nat.le_of_ble_eq_true rfl) (ztb_of k_264 rfl) d_Ho_asked_38 (fun _ _ _ h => h) (hs.get (t := 0) rfl) rfl ?_
      refine zo_iload_n (i := i_Ho_asked) (pc := 41) d_Ho_asked_41 rfl ?_
      refine zc_VN1 (i := i_Ho_asked) (pc := 42) 6 rfl m_Or_find (ztb_of k_637 rfl) (ztb_of k_639 rfl) s_Or_find d_Ho_asked_42 (Nat.le_of_ble_eq_true rfl) (Nat.le_of_ble_eq_true rfl) (Nat.le_of_ble_eq_true rfl) (Nat.le_of_ble_eq_true rfl) ((hs.pick 2 rfl).get (t := 0) rfl) (c_Or_find (hs.pick 2 rfl) h1.1 (Nat.le_trans h1.2 (by decide)) ?_)
      rw [hf]
      refine zo_astore (i := i_Ho_asked) (pc := 45) d_Ho_asked_45 rfl (Nat.le_of_ble_eq_true rfl) ?_
      refine zo_aload (i := i_Ho_asked) (pc := 47) d_Ho_asked_47 rfl rfl ?_
      refine zo_ifnonnull (i := i_Ho_asked) (pc := 49) (tgt := 53) d_Ho_asked_49 (by decide) rfl (fun h49 => False.elim (by first | exact absurd h49 ((by rintro ⟨_, q⟩; cases q)) | exact absurd ((by rintro ⟨_, q⟩; cases q)) h49)) (fun h49 => ?_)
      refine zo_return (i := i_Ho_asked) (pc := 52) hq d_Ho_asked_52 rfl (Nat.le_of_ble_eq_true rfl) (Nat.le_of_ble_eq_true rfl) ?_
      unfold askedT at k
      rw [hfs] at k
      exact k ws h0
    · refine zo_iload_n (i := i_Ho_asked) (pc := 4) d_Ho_asked_4 rfl ?_
      refine zc_S1 (i := i_Ho_asked) (pc := 5) m_Ho_isAddress (ztb_of k_652 rfl) (ztb_of k_653 rfl) d_Ho_asked_5 (Nat.le_of_ble_eq_true rfl) (Nat.le_of_ble_eq_true rfl) (Nat.le_of_ble_eq_true rfl) (Nat.le_of_ble_eq_true rfl) (c_Ho_isAddress ?_)
      refine zo_if_eq (i := i_Ho_asked) (pc := 8) (tgt := 29) d_Ho_asked_8 (by decide) (fun v8 => False.elim (by first | exact absurd v8 ((zb_t (hf0.resolve_left v1))) | exact absurd ((zb_t (hf0.resolve_left v1))) v8)) (fun v8 => ?_)
      refine zo_iload_n (i := i_Ho_asked) (pc := 11) d_Ho_asked_11 rfl ?_
      refine zc_S1 (i := i_Ho_asked) (pc := 12) m_Ho_isAddress (ztb_of k_652 rfl) (ztb_of k_653 rfl) d_Ho_asked_12 (Nat.le_of_ble_eq_true rfl) (Nat.le_of_ble_eq_true rfl) (Nat.le_of_ble_eq_true rfl) (Nat.le_of_ble_eq_true rfl) (c_Ho_isAddress ?_)
      refine zo_if_eq (i := i_Ho_asked) (pc := 15) (tgt := 29) d_Ho_asked_15 (by decide) (fun v15 => False.elim (by first | exact absurd v15 ((zb_t ht)) | exact absurd ((zb_t ht)) v15)) (fun v15 => ?_)
      refine zo_iload_n (i := i_Ho_asked) (pc := 18) d_Ho_asked_18 rfl ?_
      refine zc_S1 (i := i_Ho_asked) (pc := 19) m_Ho_isNumber (ztb_of k_509 rfl) (ztb_of k_510 rfl) d_Ho_asked_19 (Nat.le_of_ble_eq_true rfl) (Nat.le_of_ble_eq_true rfl) (Nat.le_of_ble_eq_true rfl) (Nat.le_of_ble_eq_true rfl) (c_Ho_isNumber ?_)
      refine zo_if_eq (i := i_Ho_asked) (pc := 22) (tgt := 29) d_Ho_asked_22 (by decide) (fun v22 => False.elim (by first | exact absurd v22 ((zb_t hn)) | exact absurd ((zb_t hn)) v22)) (fun v22 => ?_)
      refine zo_iconst (i := i_Ho_asked) (pc := 25) (v := 1) d_Ho_asked_25 (by decide) ?_
      refine zo_goto (i := i_Ho_asked) (pc := 26) (tgt := 30) d_Ho_asked_26 (by decide) ?_
      refine zc_S1 (i := i_Ho_asked) (pc := 30) m_Ho_requireArguments (ztb_of k_362 rfl) (ztb_of k_363 rfl) d_Ho_asked_30 (Nat.le_of_ble_eq_true rfl) (Nat.le_of_ble_eq_true rfl) (Nat.le_of_ble_eq_true rfl) (Nat.le_of_ble_eq_true rfl) (c_Ho_requireArguments (by decide) ?_)
      refine zo_aload_n (i := i_Ho_asked) (pc := 33) d_Ho_asked_33 rfl rfl ?_
      refine zc_V0 (i := i_Ho_asked) (pc := 34) 9 rfl m_Ho_requireUp (ztb_of k_515 rfl) (ztb_of k_517 rfl) s_Ho_requireUp d_Ho_asked_34 (Nat.le_of_ble_eq_true rfl) (Nat.le_of_ble_eq_true rfl) (Nat.le_of_ble_eq_true rfl) (Nat.le_of_ble_eq_true rfl) (hs.get (t := 0) rfl) (c_Ho_requireUp (A := A) (s := s) (hs.get (t := 0) rfl) hu ?_)
      refine zo_aload_n (i := i_Ho_asked) (pc := 37) d_Ho_asked_37 rfl rfl ?_
      refine zo_get (i := i_Ho_asked) (pc := 38) 9 2 rfl zok_Ho (Nat.le_of_ble_eq_true rfl) (ztb_of k_264 rfl) d_Ho_asked_38 (fun _ _ _ h => h) (hs.get (t := 0) rfl) rfl ?_
      refine zo_iload_n (i := i_Ho_asked) (pc := 41) d_Ho_asked_41 rfl ?_
      refine zc_VN1 (i := i_Ho_asked) (pc := 42) 6 rfl m_Or_find (ztb_of k_637 rfl) (ztb_of k_639 rfl) s_Or_find d_Ho_asked_42 (Nat.le_of_ble_eq_true rfl) (Nat.le_of_ble_eq_true rfl) (Nat.le_of_ble_eq_true rfl) (Nat.le_of_ble_eq_true rfl) ((hs.pick 2 rfl).get (t := 0) rfl) (c_Or_find (hs.pick 2 rfl) h1.1 (Nat.le_trans h1.2 (by decide)) ?_)
      rw [hf]
      refine zo_astore (i := i_Ho_asked) (pc := 45) d_Ho_asked_45 rfl (Nat.le_of_ble_eq_true rfl) ?_
      refine zo_aload (i := i_Ho_asked) (pc := 47) d_Ho_asked_47 rfl rfl ?_
      refine zo_ifnonnull (i := i_Ho_asked) (pc := 49) (tgt := 53) d_Ho_asked_49 (by decide) rfl (fun h49 => False.elim (by first | exact absurd h49 ((by rintro ⟨_, q⟩; cases q)) | exact absurd ((by rintro ⟨_, q⟩; cases q)) h49)) (fun h49 => ?_)
      refine zo_return (i := i_Ho_asked) (pc := 52) hq d_Ho_asked_52 rfl (Nat.le_of_ble_eq_true rfl) (Nat.le_of_ble_eq_true rfl) ?_
      unfold askedT at k
      rw [hfs] at k
      exact k ws h0
  | some e =>
    rw [hf] at hfs
    obtain ⟨j, hj, hpj, hno⟩ := zfind_idx hf
    have hkey : e.2.1 = t := of_decide_eq_true hpj
    have hse := rw_el (hs.pick 2 rfl) hj
    refine zo_iload_n (i := i_Ho_asked) (pc := 0) d_Ho_asked_0 rfl ?_
    refine zo_if_eq (i := i_Ho_asked) (pc := 1) (tgt := 11) d_Ho_asked_1 (by decide) (fun v1 => ?_) (fun v1 => ?_)
    · refine zo_iload_n (i := i_Ho_asked) (pc := 11) d_Ho_asked_11 rfl ?_
      refine zc_S1 (i := i_Ho_asked) (pc := 12) m_Ho_isAddress (ztb_of k_652 rfl) (ztb_of k_653 rfl) d_Ho_asked_12 (Nat.le_of_ble_eq_true rfl) (Nat.le_of_ble_eq_true rfl) (Nat.le_of_ble_eq_true rfl) (Nat.le_of_ble_eq_true rfl) (c_Ho_isAddress ?_)
      refine zo_if_eq (i := i_Ho_asked) (pc := 15) (tgt := 29) d_Ho_asked_15 (by decide) (fun v15 => False.elim (by first | exact absurd v15 ((zb_t ht)) | exact absurd ((zb_t ht)) v15)) (fun v15 => ?_)
      refine zo_iload_n (i := i_Ho_asked) (pc := 18) d_Ho_asked_18 rfl ?_
      refine zc_S1 (i := i_Ho_asked) (pc := 19) m_Ho_isNumber (ztb_of k_509 rfl) (ztb_of k_510 rfl) d_Ho_asked_19 (Nat.le_of_ble_eq_true rfl) (Nat.le_of_ble_eq_true rfl) (Nat.le_of_ble_eq_true rfl) (Nat.le_of_ble_eq_true rfl) (c_Ho_isNumber ?_)
      refine zo_if_eq (i := i_Ho_asked) (pc := 22) (tgt := 29) d_Ho_asked_22 (by decide) (fun v22 => False.elim (by first | exact absurd v22 ((zb_t hn)) | exact absurd ((zb_t hn)) v22)) (fun v22 => ?_)
      refine zo_iconst (i := i_Ho_asked) (pc := 25) (v := 1) d_Ho_asked_25 (by decide) ?_
      refine zo_goto (i := i_Ho_asked) (pc := 26) (tgt := 30) d_Ho_asked_26 (by decide) ?_
      refine zc_S1 (i := i_Ho_asked) (pc := 30) m_Ho_requireArguments (ztb_of k_362 rfl) (ztb_of k_363 rfl) d_Ho_asked_30 (Nat.le_of_ble_eq_true rfl) (Nat.le_of_ble_eq_true rfl) (Nat.le_of_ble_eq_true rfl) (Nat.le_of_ble_eq_true rfl) (c_Ho_requireArguments (by decide) ?_)
      refine zo_aload_n (i := i_Ho_asked) (pc := 33) d_Ho_asked_33 rfl rfl ?_
      refine zc_V0 (i := i_Ho_asked) (pc := 34) 9 rfl m_Ho_requireUp (ztb_of k_515 rfl) (ztb_of k_517 rfl) s_Ho_requireUp d_Ho_asked_34 (Nat.le_of_ble_eq_true rfl) (Nat.le_of_ble_eq_true rfl) (Nat.le_of_ble_eq_true rfl) (Nat.le_of_ble_eq_true rfl) (hs.get (t := 0) rfl) (c_Ho_requireUp (A := A) (s := s) (hs.get (t := 0) rfl) hu ?_)
      refine zo_aload_n (i := i_Ho_asked) (pc := 37) d_Ho_asked_37 rfl rfl ?_
      refine zo_get (i := i_Ho_asked) (pc := 38) 9 2 rfl zok_Ho (Nat.le_of_ble_eq_true rfl) (ztb_of k_264 rfl) d_Ho_asked_38 (fun _ _ _ h => h) (hs.get (t := 0) rfl) rfl ?_
      refine zo_iload_n (i := i_Ho_asked) (pc := 41) d_Ho_asked_41 rfl ?_
      refine zc_VN1 (i := i_Ho_asked) (pc := 42) 6 rfl m_Or_find (ztb_of k_637 rfl) (ztb_of k_639 rfl) s_Or_find d_Ho_asked_42 (Nat.le_of_ble_eq_true rfl) (Nat.le_of_ble_eq_true rfl) (Nat.le_of_ble_eq_true rfl) (Nat.le_of_ble_eq_true rfl) ((hs.pick 2 rfl).get (t := 0) rfl) (c_Or_find (hs.pick 2 rfl) h1.1 (Nat.le_trans h1.2 (by decide)) ?_)
      rw [hf]
      refine zo_astore (i := i_Ho_asked) (pc := 45) d_Ho_asked_45 rfl (Nat.le_of_ble_eq_true rfl) ?_
      refine zo_aload (i := i_Ho_asked) (pc := 47) d_Ho_asked_47 rfl rfl ?_
      refine zo_ifnonnull (i := i_Ho_asked) (pc := 49) (tgt := 53) d_Ho_asked_49 (by decide) rfl (fun h49 => ?_) (fun h49 => False.elim (by first | exact absurd h49 ((by intro q; cases q)) | exact absurd ((by intro q; cases q)) h49))
      refine zo_aload (i := i_Ho_asked) (pc := 53) d_Ho_asked_53 rfl rfl ?_
      refine zc_VN0 (i := i_Ho_asked) (pc := 55) 5 rfl m_Oa_isUsable (ztb_of k_658 rfl) (ztb_of k_660 rfl) s_Oa_isUsable d_Ho_asked_55 (Nat.le_of_ble_eq_true rfl) (Nat.le_of_ble_eq_true rfl) (Nat.le_of_ble_eq_true rfl) (Nat.le_of_ble_eq_true rfl) hse (c_Oa_isUsable hse ?_)
      refine zo_if_eq (i := i_Ho_asked) (pc := 58) (tgt := 94) d_Ho_asked_58 (by decide) (fun h58 => ?_) (fun h58 => ?_)
      · refine zo_iload_n (i := i_Ho_asked) (pc := 94) d_Ho_asked_94 rfl ?_
        refine zo_if_ne (i := i_Ho_asked) (pc := 95) (tgt := 113) d_Ho_asked_95 (by decide) (fun h95 => False.elim (by first | exact absurd h95 (v1) | exact absurd (v1) h95)) (fun h95 => ?_)
        refine zo_aload (i := i_Ho_asked) (pc := 98) d_Ho_asked_98 rfl rfl ?_
        refine zo_getN (i := i_Ho_asked) (pc := 100) 5 2 rfl zok_Oa (Nat.le_of_ble_eq_true rfl) (ztb_of k_174 rfl) d_Ho_asked_100 (fun _ _ _ h => h) hse rfl ?_
        refine zo_iconst (i := i_Ho_asked) (pc := 103) (v := 1) d_Ho_asked_103 (by decide) ?_
        refine zo_icmp_ne (i := i_Ho_asked) (pc := 104) (tgt := 113) d_Ho_asked_104 (by decide) (fun h104 => ?_) (fun h104 => ?_)
        · refine zo_return (i := i_Ho_asked) (pc := 113) hq d_Ho_asked_113 rfl (Nat.le_of_ble_eq_true rfl) (Nat.le_of_ble_eq_true rfl) ?_
          unfold askedT at k
          rw [hfs] at k
          replace k : ∀ w, hH g A (if zusable e.2.2.2.1 then (let q1 := if f = 0 then (s, u, ow.2.map Prod.snd, nb.2.map Prod.snd, ro.2.map Prod.snd, pf.2.map Prod.snd, pa.2.map Prod.snd, hd) else lnT (s, u, ow.2.map Prod.snd, nb.2.map Prod.snd, ro.2.map Prod.snd, pf.2.map Prod.snd, pa.2.map Prod.snd, hd) f n; tU q1 (ouAdd q1.2.1 3 (if f = 0 then 65535 else f) t)) else if f = 0 ∧ e.2.2.2.1 = 1 then dupT (s, u, ow.2.map Prod.snd, nb.2.map Prod.snd, ro.2.map Prod.snd, pf.2.map Prod.snd, pa.2.map Prod.snd, hd) t e.2 else (s, u, ow.2.map Prod.snd, nb.2.map Prod.snd, ro.2.map Prod.snd, pf.2.map Prod.snd, pa.2.map Prod.snd, hd)) R w → post none w := k
          rw [zb_0] at h58
          rw [if_neg (by rw [h58]; decide)] at k
          rw [if_neg (fun q => h104 q.2)] at k
          exact k ws h0
        · refine zo_aload_n (i := i_Ho_asked) (pc := 107) d_Ho_asked_107 rfl rfl ?_
          refine zo_aload (i := i_Ho_asked) (pc := 108) d_Ho_asked_108 rfl rfl ?_
          refine zc_V1 (i := i_Ho_asked) (pc := 110) 9 rfl m_Ho_markDuplicate (ztb_of k_662 rfl) (ztb_of k_664 rfl) s_Ho_markDuplicate d_Ho_asked_110 (Nat.le_of_ble_eq_true rfl) (Nat.le_of_ble_eq_true rfl) (Nat.le_of_ble_eq_true rfl) (Nat.le_of_ble_eq_true rfl) (hs.get (t := 0) rfl) (c_Ho_markDuplicate (hv_ow hs hj) fun ws hs => ?_)
          replace hs := hu_ow (y := oaS e.2 4) hj hs
          refine zo_return (i := i_Ho_asked) (pc := 113) hq d_Ho_asked_113 rfl (Nat.le_of_ble_eq_true rfl) (Nat.le_of_ble_eq_true rfl) ?_
          unfold askedT at k
          rw [hfs] at k
          replace k : ∀ w, hH g A (if zusable e.2.2.2.1 then (let q1 := if f = 0 then (s, u, ow.2.map Prod.snd, nb.2.map Prod.snd, ro.2.map Prod.snd, pf.2.map Prod.snd, pa.2.map Prod.snd, hd) else lnT (s, u, ow.2.map Prod.snd, nb.2.map Prod.snd, ro.2.map Prod.snd, pf.2.map Prod.snd, pa.2.map Prod.snd, hd) f n; tU q1 (ouAdd q1.2.1 3 (if f = 0 then 65535 else f) t)) else if f = 0 ∧ e.2.2.2.1 = 1 then dupT (s, u, ow.2.map Prod.snd, nb.2.map Prod.snd, ro.2.map Prod.snd, pf.2.map Prod.snd, pa.2.map Prod.snd, hd) t e.2 else (s, u, ow.2.map Prod.snd, nb.2.map Prod.snd, ro.2.map Prod.snd, pf.2.map Prod.snd, pa.2.map Prod.snd, hd)) R w → post none w := k
          rw [zb_0] at h58
          rw [if_neg (by rw [h58]; decide)] at k
          rw [if_pos ⟨v1, h104⟩] at k
          exact k ws ⟨_, _, _, _, _, (hok_set h1), h2, h3, h4, h5, (set_snd (p := fun e => decide (e.1 = t)) (f := fun x => oaS x 4) hno hj hpj), rfl, rfl, rfl, rfl, h6, hs⟩
      · refine zo_iload_n (i := i_Ho_asked) (pc := 61) d_Ho_asked_61 rfl ?_
        refine zo_if_eq (i := i_Ho_asked) (pc := 62) (tgt := 72) d_Ho_asked_62 (by decide) (fun h62 => ?_) (fun h62 => False.elim (by first | exact absurd h62 (v1) | exact absurd (v1) h62))
        refine zo_aload_n (i := i_Ho_asked) (pc := 72) d_Ho_asked_72 rfl rfl ?_
        refine zo_get (i := i_Ho_asked) (pc := 73) 9 1 rfl zok_Ho (Nat.le_of_ble_eq_true rfl) (ztb_of k_263 rfl) d_Ho_asked_73 (fun _ _ _ h => h) (hs.get (t := 0) rfl) rfl ?_
        refine zo_iconst (i := i_Ho_asked) (pc := 76) (v := 3) d_Ho_asked_76 (by decide) ?_
        refine zo_iload_n (i := i_Ho_asked) (pc := 77) d_Ho_asked_77 rfl ?_
        refine zo_if_ne (i := i_Ho_asked) (pc := 78) (tgt := 86) d_Ho_asked_78 (by decide) (fun h78 => False.elim (by first | exact absurd h78 (v1) | exact absurd (v1) h78)) (fun h78 => ?_)
        refine zo_ldc (i := i_Ho_asked) (pc := 81) d_Ho_asked_81 (ztb_of k_256 rfl) ?_
        refine zo_goto (i := i_Ho_asked) (pc := 83) (tgt := 87) d_Ho_asked_83 (by decide) ?_
        refine zo_iload_n (i := i_Ho_asked) (pc := 87) d_Ho_asked_87 rfl ?_
        refine zc_VN3 (i := i_Ho_asked) (pc := 88) 4 rfl m_Ou_add (ztb_of k_257 rfl) (ztb_of k_259 rfl) s_Ou_add d_Ho_asked_88 (Nat.le_of_ble_eq_true rfl) (Nat.le_of_ble_eq_true rfl) (Nat.le_of_ble_eq_true rfl) (Nat.le_of_ble_eq_true rfl) ((hs.pick 1 rfl).get (t := 0) rfl) (c_ou_add (hs.pick 1 rfl) fun ws hs => ?_)
        replace hs : zHas ws (hL g A s (ouAdd u 3 65535 t) ow nb ro pf pa hd R).flatten := zHas.back (cs := hL g A s u ow nb ro pf pa hd R) 1 rfl hs
        refine zo_goto (i := i_Ho_asked) (pc := 91) (tgt := 113) d_Ho_asked_91 (by decide) ?_
        refine zo_return (i := i_Ho_asked) (pc := 113) hq d_Ho_asked_113 rfl (Nat.le_of_ble_eq_true rfl) (Nat.le_of_ble_eq_true rfl) ?_
        unfold askedT at k
        rw [hfs] at k
        replace k : ∀ w, hH g A (if zusable e.2.2.2.1 then (let q1 := if f = 0 then (s, u, ow.2.map Prod.snd, nb.2.map Prod.snd, ro.2.map Prod.snd, pf.2.map Prod.snd, pa.2.map Prod.snd, hd) else lnT (s, u, ow.2.map Prod.snd, nb.2.map Prod.snd, ro.2.map Prod.snd, pf.2.map Prod.snd, pa.2.map Prod.snd, hd) f n; tU q1 (ouAdd q1.2.1 3 (if f = 0 then 65535 else f) t)) else if f = 0 ∧ e.2.2.2.1 = 1 then dupT (s, u, ow.2.map Prod.snd, nb.2.map Prod.snd, ro.2.map Prod.snd, pf.2.map Prod.snd, pa.2.map Prod.snd, hd) t e.2 else (s, u, ow.2.map Prod.snd, nb.2.map Prod.snd, ro.2.map Prod.snd, pf.2.map Prod.snd, pa.2.map Prod.snd, hd)) R w → post none w := k
        rw [zb_0, Bool.not_eq_false] at h58
        rw [if_pos h58] at k
        simp only [v1, if_true] at k
        exact k ws ⟨_, _, _, _, _, h1, h2, h3, h4, h5, rfl, rfl, rfl, rfl, rfl, h6, hs⟩
    · refine zo_iload_n (i := i_Ho_asked) (pc := 4) d_Ho_asked_4 rfl ?_
      refine zc_S1 (i := i_Ho_asked) (pc := 5) m_Ho_isAddress (ztb_of k_652 rfl) (ztb_of k_653 rfl) d_Ho_asked_5 (Nat.le_of_ble_eq_true rfl) (Nat.le_of_ble_eq_true rfl) (Nat.le_of_ble_eq_true rfl) (Nat.le_of_ble_eq_true rfl) (c_Ho_isAddress ?_)
      refine zo_if_eq (i := i_Ho_asked) (pc := 8) (tgt := 29) d_Ho_asked_8 (by decide) (fun v8 => False.elim (by first | exact absurd v8 ((zb_t (hf0.resolve_left v1))) | exact absurd ((zb_t (hf0.resolve_left v1))) v8)) (fun v8 => ?_)
      refine zo_iload_n (i := i_Ho_asked) (pc := 11) d_Ho_asked_11 rfl ?_
      refine zc_S1 (i := i_Ho_asked) (pc := 12) m_Ho_isAddress (ztb_of k_652 rfl) (ztb_of k_653 rfl) d_Ho_asked_12 (Nat.le_of_ble_eq_true rfl) (Nat.le_of_ble_eq_true rfl) (Nat.le_of_ble_eq_true rfl) (Nat.le_of_ble_eq_true rfl) (c_Ho_isAddress ?_)
      refine zo_if_eq (i := i_Ho_asked) (pc := 15) (tgt := 29) d_Ho_asked_15 (by decide) (fun v15 => False.elim (by first | exact absurd v15 ((zb_t ht)) | exact absurd ((zb_t ht)) v15)) (fun v15 => ?_)
      refine zo_iload_n (i := i_Ho_asked) (pc := 18) d_Ho_asked_18 rfl ?_
      refine zc_S1 (i := i_Ho_asked) (pc := 19) m_Ho_isNumber (ztb_of k_509 rfl) (ztb_of k_510 rfl) d_Ho_asked_19 (Nat.le_of_ble_eq_true rfl) (Nat.le_of_ble_eq_true rfl) (Nat.le_of_ble_eq_true rfl) (Nat.le_of_ble_eq_true rfl) (c_Ho_isNumber ?_)
      refine zo_if_eq (i := i_Ho_asked) (pc := 22) (tgt := 29) d_Ho_asked_22 (by decide) (fun v22 => False.elim (by first | exact absurd v22 ((zb_t hn)) | exact absurd ((zb_t hn)) v22)) (fun v22 => ?_)
      refine zo_iconst (i := i_Ho_asked) (pc := 25) (v := 1) d_Ho_asked_25 (by decide) ?_
      refine zo_goto (i := i_Ho_asked) (pc := 26) (tgt := 30) d_Ho_asked_26 (by decide) ?_
      refine zc_S1 (i := i_Ho_asked) (pc := 30) m_Ho_requireArguments (ztb_of k_362 rfl) (ztb_of k_363 rfl) d_Ho_asked_30 (Nat.le_of_ble_eq_true rfl) (Nat.le_of_ble_eq_true rfl) (Nat.le_of_ble_eq_true rfl) (Nat.le_of_ble_eq_true rfl) (c_Ho_requireArguments (by decide) ?_)
      refine zo_aload_n (i := i_Ho_asked) (pc := 33) d_Ho_asked_33 rfl rfl ?_
      refine zc_V0 (i := i_Ho_asked) (pc := 34) 9 rfl m_Ho_requireUp (ztb_of k_515 rfl) (ztb_of k_517 rfl) s_Ho_requireUp d_Ho_asked_34 (Nat.le_of_ble_eq_true rfl) (Nat.le_of_ble_eq_true rfl) (Nat.le_of_ble_eq_true rfl) (Nat.le_of_ble_eq_true rfl) (hs.get (t := 0) rfl) (c_Ho_requireUp (A := A) (s := s) (hs.get (t := 0) rfl) hu ?_)
      refine zo_aload_n (i := i_Ho_asked) (pc := 37) d_Ho_asked_37 rfl rfl ?_
      refine zo_get (i := i_Ho_asked) (pc := 38) 9 2 rfl zok_Ho (Nat.le_of_ble_eq_true rfl) (ztb_of k_264 rfl) d_Ho_asked_38 (fun _ _ _ h => h) (hs.get (t := 0) rfl) rfl ?_
      refine zo_iload_n (i := i_Ho_asked) (pc := 41) d_Ho_asked_41 rfl ?_
      refine zc_VN1 (i := i_Ho_asked) (pc := 42) 6 rfl m_Or_find (ztb_of k_637 rfl) (ztb_of k_639 rfl) s_Or_find d_Ho_asked_42 (Nat.le_of_ble_eq_true rfl) (Nat.le_of_ble_eq_true rfl) (Nat.le_of_ble_eq_true rfl) (Nat.le_of_ble_eq_true rfl) ((hs.pick 2 rfl).get (t := 0) rfl) (c_Or_find (hs.pick 2 rfl) h1.1 (Nat.le_trans h1.2 (by decide)) ?_)
      rw [hf]
      refine zo_astore (i := i_Ho_asked) (pc := 45) d_Ho_asked_45 rfl (Nat.le_of_ble_eq_true rfl) ?_
      refine zo_aload (i := i_Ho_asked) (pc := 47) d_Ho_asked_47 rfl rfl ?_
      refine zo_ifnonnull (i := i_Ho_asked) (pc := 49) (tgt := 53) d_Ho_asked_49 (by decide) rfl (fun h49 => ?_) (fun h49 => False.elim (by first | exact absurd h49 ((by intro q; cases q)) | exact absurd ((by intro q; cases q)) h49))
      refine zo_aload (i := i_Ho_asked) (pc := 53) d_Ho_asked_53 rfl rfl ?_
      refine zc_VN0 (i := i_Ho_asked) (pc := 55) 5 rfl m_Oa_isUsable (ztb_of k_658 rfl) (ztb_of k_660 rfl) s_Oa_isUsable d_Ho_asked_55 (Nat.le_of_ble_eq_true rfl) (Nat.le_of_ble_eq_true rfl) (Nat.le_of_ble_eq_true rfl) (Nat.le_of_ble_eq_true rfl) hse (c_Oa_isUsable hse ?_)
      refine zo_if_eq (i := i_Ho_asked) (pc := 58) (tgt := 94) d_Ho_asked_58 (by decide) (fun h58 => ?_) (fun h58 => ?_)
      · refine zo_iload_n (i := i_Ho_asked) (pc := 94) d_Ho_asked_94 rfl ?_
        refine zo_if_ne (i := i_Ho_asked) (pc := 95) (tgt := 113) d_Ho_asked_95 (by decide) (fun h95 => ?_) (fun h95 => False.elim (by first | exact absurd h95 (v1) | exact absurd (v1) h95))
        refine zo_return (i := i_Ho_asked) (pc := 113) hq d_Ho_asked_113 rfl (Nat.le_of_ble_eq_true rfl) (Nat.le_of_ble_eq_true rfl) ?_
        unfold askedT at k
        rw [hfs] at k
        replace k : ∀ w, hH g A (if zusable e.2.2.2.1 then (let q1 := if f = 0 then (s, u, ow.2.map Prod.snd, nb.2.map Prod.snd, ro.2.map Prod.snd, pf.2.map Prod.snd, pa.2.map Prod.snd, hd) else lnT (s, u, ow.2.map Prod.snd, nb.2.map Prod.snd, ro.2.map Prod.snd, pf.2.map Prod.snd, pa.2.map Prod.snd, hd) f n; tU q1 (ouAdd q1.2.1 3 (if f = 0 then 65535 else f) t)) else if f = 0 ∧ e.2.2.2.1 = 1 then dupT (s, u, ow.2.map Prod.snd, nb.2.map Prod.snd, ro.2.map Prod.snd, pf.2.map Prod.snd, pa.2.map Prod.snd, hd) t e.2 else (s, u, ow.2.map Prod.snd, nb.2.map Prod.snd, ro.2.map Prod.snd, pf.2.map Prod.snd, pa.2.map Prod.snd, hd)) R w → post none w := k
        rw [zb_0] at h58
        rw [if_neg (by rw [h58]; decide)] at k
        rw [if_neg (fun q => v1 q.1)] at k
        exact k ws h0
      · refine zo_iload_n (i := i_Ho_asked) (pc := 61) d_Ho_asked_61 rfl ?_
        refine zo_if_eq (i := i_Ho_asked) (pc := 62) (tgt := 72) d_Ho_asked_62 (by decide) (fun h62 => False.elim (by first | exact absurd h62 (v1) | exact absurd (v1) h62)) (fun h62 => ?_)
        refine zo_aload_n (i := i_Ho_asked) (pc := 65) d_Ho_asked_65 rfl rfl ?_
        refine zo_iload_n (i := i_Ho_asked) (pc := 66) d_Ho_asked_66 rfl ?_
        refine zo_iload_n (i := i_Ho_asked) (pc := 67) d_Ho_asked_67 rfl ?_
        refine zc_V2 (i := i_Ho_asked) (pc := 68) 9 rfl m_Ho_learnNumber (ztb_of k_535 rfl) (ztb_of k_537 rfl) s_Ho_learnNumber d_Ho_asked_68 (Nat.le_of_ble_eq_true rfl) (Nat.le_of_ble_eq_true rfl) (Nat.le_of_ble_eq_true rfl) (Nat.le_of_ble_eq_true rfl) (hs.get (t := 0) rfl) (c_Ho_learnNumber h0 fun ow1 nb' ro1 pf1 pa1 b j1 x ws h1 h2 h3 h4 h5 e1 e2 e3 e4 e5 hj hx hno hs => ?_)
        obtain ⟨U1, L1, eL⟩ := lnT_ex (s, u, ow.2.map Prod.snd, nb.2.map Prod.snd, ro.2.map Prod.snd, pf.2.map Prod.snd, pa.2.map Prod.snd, hd) f n
        rw [eL] at e2 hs
        replace e2 : nb'.2.map Prod.snd = L1 := e2
        replace hs : zHas ws (hL g A s U1 ow1 nb' ro1 pf1 pa1 hd R).flatten := hs
        refine zo_pop (i := i_Ho_asked) (pc := 71) d_Ho_asked_71 rfl ?_
        refine zo_aload_n (i := i_Ho_asked) (pc := 72) d_Ho_asked_72 rfl rfl ?_
        refine zo_get (i := i_Ho_asked) (pc := 73) 9 1 rfl zok_Ho (Nat.le_of_ble_eq_true rfl) (ztb_of k_263 rfl) d_Ho_asked_73 (fun _ _ _ h => h) (hs.get (t := 0) rfl) rfl ?_
        refine zo_iconst (i := i_Ho_asked) (pc := 76) (v := 3) d_Ho_asked_76 (by decide) ?_
        refine zo_iload_n (i := i_Ho_asked) (pc := 77) d_Ho_asked_77 rfl ?_
        refine zo_if_ne (i := i_Ho_asked) (pc := 78) (tgt := 86) d_Ho_asked_78 (by decide) (fun h78 => ?_) (fun h78 => False.elim (by first | exact absurd h78 (v1) | exact absurd (v1) h78))
        refine zo_iload_n (i := i_Ho_asked) (pc := 86) d_Ho_asked_86 rfl ?_
        refine zo_iload_n (i := i_Ho_asked) (pc := 87) d_Ho_asked_87 rfl ?_
        refine zc_VN3 (i := i_Ho_asked) (pc := 88) 4 rfl m_Ou_add (ztb_of k_257 rfl) (ztb_of k_259 rfl) s_Ou_add d_Ho_asked_88 (Nat.le_of_ble_eq_true rfl) (Nat.le_of_ble_eq_true rfl) (Nat.le_of_ble_eq_true rfl) (Nat.le_of_ble_eq_true rfl) ((hs.pick 1 rfl).get (t := 0) rfl) (c_ou_add (hs.pick 1 rfl) fun ws hs => ?_)
        replace hs : zHas ws (hL g A s (ouAdd U1 3 f t) ow1 nb' ro1 pf1 pa1 hd R).flatten := zHas.back (cs := hL g A s U1 ow1 nb' ro1 pf1 pa1 hd R) 1 rfl hs
        refine zo_goto (i := i_Ho_asked) (pc := 91) (tgt := 113) d_Ho_asked_91 (by decide) ?_
        refine zo_return (i := i_Ho_asked) (pc := 113) hq d_Ho_asked_113 rfl (Nat.le_of_ble_eq_true rfl) (Nat.le_of_ble_eq_true rfl) ?_
        unfold askedT at k
        rw [hfs] at k
        replace k : ∀ w, hH g A (if zusable e.2.2.2.1 then (let q1 := if f = 0 then (s, u, ow.2.map Prod.snd, nb.2.map Prod.snd, ro.2.map Prod.snd, pf.2.map Prod.snd, pa.2.map Prod.snd, hd) else lnT (s, u, ow.2.map Prod.snd, nb.2.map Prod.snd, ro.2.map Prod.snd, pf.2.map Prod.snd, pa.2.map Prod.snd, hd) f n; tU q1 (ouAdd q1.2.1 3 (if f = 0 then 65535 else f) t)) else if f = 0 ∧ e.2.2.2.1 = 1 then dupT (s, u, ow.2.map Prod.snd, nb.2.map Prod.snd, ro.2.map Prod.snd, pf.2.map Prod.snd, pa.2.map Prod.snd, hd) t e.2 else (s, u, ow.2.map Prod.snd, nb.2.map Prod.snd, ro.2.map Prod.snd, pf.2.map Prod.snd, pa.2.map Prod.snd, hd)) R w → post none w := k
        rw [zb_0, Bool.not_eq_false] at h58
        rw [if_pos h58] at k
        simp only [v1, if_false] at k
        rw [eL] at k
        exact k ws ⟨_, _, _, _, _, h1, h2, h3, h4, h5, e1, e2, e3, e4, e5, h6, hs⟩
theorem c_Ho_told {g : zG} {ws : va_W} {post : Option Value → va_W → Prop} {A : Nat → Nat} {q : hT} {R : va_W} (h : hH g A q R ws) {t n fl : Int32} (ht : zaddr t = true) (hn : zwithin n 1 99 = true) (hfl : zwithin fl 0 7 = true) (hu : q.1.2.2.2.2.2.2 = false) (k : ∀ w, hH g A (toldT q t n fl) R w → post none w) : zC g i_Ho_told [.ref (A 0), .int t, .int n, .int fl] ws post := by
  refine zC.intro (by decide +kernel) rfl (Nat.le_of_ble_eq_true rfl) fun x0 hq => ?_
  have h0 := h
  obtain ⟨s, u, lo, ln, lr, lp, la, hd⟩ := q
  obtain ⟨ow, nb, ro, pf, pa, h1, h2, h3, h4, h5, rfl, rfl, rfl, rfl, rfl, h6, hs⟩ := h
  replace hs : zHas ws (hL g A s u ow nb ro pf pa hd R).flatten := hs
  have hu : s.2.2.2.2.2.2 = false := hu
  have hfs := find_snd (fun e => decide (e.1 = t)) ow.2
  cases hf : ow.2.find? (fun e => decide (e.2.1 = t)) with
  | none =>
    rw [hf] at hfs
    refine zo_iload_n (i := i_Ho_told) (pc := 0) d_Ho_told_0 rfl ?_
    refine zc_S1 (i := i_Ho_told) (pc := 1) m_Ho_isAddress (ztb_of k_652 rfl) (ztb_of k_653 rfl) d_Ho_told_1 (Nat.le_of_ble_eq_true rfl) (Nat.le_of_ble_eq_true rfl) (Nat.le_of_ble_eq_true rfl) (Nat.le_of_ble_eq_true rfl) (c_Ho_isAddress ?_)
    refine zo_if_eq (i := i_Ho_told) (pc := 4) (tgt := 28) d_Ho_told_4 (by decide) (fun v4 => False.elim (by first | exact absurd v4 ((zb_t ht)) | exact absurd ((zb_t ht)) v4)) (fun v4 => ?_)
    refine zo_iload_n (i := i_Ho_told) (pc := 7) d_Ho_told_7 rfl ?_
    refine zc_S1 (i := i_Ho_told) (pc := 8) m_Ho_isNumber (ztb_of k_509 rfl) (ztb_of k_510 rfl) d_Ho_told_8 (Nat.le_of_ble_eq_true rfl) (Nat.le_of_ble_eq_true rfl) (Nat.le_of_ble_eq_true rfl) (Nat.le_of_ble_eq_true rfl) (c_Ho_isNumber ?_)
    refine zo_if_eq (i := i_Ho_told) (pc := 11) (tgt := 28) d_Ho_told_11 (by decide) (fun v11 => False.elim (by first | exact absurd v11 ((zb_t hn)) | exact absurd ((zb_t hn)) v11)) (fun v11 => ?_)
    refine zo_iload_n (i := i_Ho_told) (pc := 14) d_Ho_told_14 rfl ?_
    refine zo_iconst (i := i_Ho_told) (pc := 15) (v := 0) d_Ho_told_15 (by decide) ?_
    refine zo_bipush (i := i_Ho_told) (pc := 16) (v := 7) d_Ho_told_16 (by decide) ?_
    refine zc_S3 (i := i_Ho_told) (pc := 18) m_Ho_isWithin (ztb_of k_359 rfl) (ztb_of k_360 rfl) d_Ho_told_18 (Nat.le_of_ble_eq_true rfl) (Nat.le_of_ble_eq_true rfl) (Nat.le_of_ble_eq_true rfl) (Nat.le_of_ble_eq_true rfl) (c_Ho_isWithin ?_)
    refine zo_if_eq (i := i_Ho_told) (pc := 21) (tgt := 28) d_Ho_told_21 (by decide) (fun v21 => False.elim (by first | exact absurd v21 ((zb_t hfl)) | exact absurd ((zb_t hfl)) v21)) (fun v21 => ?_)
    refine zo_iconst (i := i_Ho_told) (pc := 24) (v := 1) d_Ho_told_24 (by decide) ?_
    refine zo_goto (i := i_Ho_told) (pc := 25) (tgt := 29) d_Ho_told_25 (by decide) ?_
    refine zc_S1 (i := i_Ho_told) (pc := 29) m_Ho_requireArguments (ztb_of k_362 rfl) (ztb_of k_363 rfl) d_Ho_told_29 (Nat.le_of_ble_eq_true rfl) (Nat.le_of_ble_eq_true rfl) (Nat.le_of_ble_eq_true rfl) (Nat.le_of_ble_eq_true rfl) (c_Ho_requireArguments (by decide) ?_)
    refine zo_aload_n (i := i_Ho_told) (pc := 32) d_Ho_told_32 rfl rfl ?_
    refine zc_V0 (i := i_Ho_told) (pc := 33) 9 rfl m_Ho_requireUp (ztb_of k_515 rfl) (ztb_of k_517 rfl) s_Ho_requireUp d_Ho_told_33 (Nat.le_of_ble_eq_true rfl) (Nat.le_of_ble_eq_true rfl) (Nat.le_of_ble_eq_true rfl) (Nat.le_of_ble_eq_true rfl) (hs.get (t := 0) rfl) (c_Ho_requireUp (A := A) (s := s) (hs.get (t := 0) rfl) hu ?_)
    refine zo_aload_n (i := i_Ho_told) (pc := 36) d_Ho_told_36 rfl rfl ?_
    refine zo_get (i := i_Ho_told) (pc := 37) 9 2 rfl zok_Ho (Nat.le_of_ble_eq_true rfl) (ztb_of k_264 rfl) d_Ho_told_37 (fun _ _ _ h => h) (hs.get (t := 0) rfl) rfl ?_
    refine zo_iload_n (i := i_Ho_told) (pc := 40) d_Ho_told_40 rfl ?_
    refine zc_VN1 (i := i_Ho_told) (pc := 41) 6 rfl m_Or_find (ztb_of k_637 rfl) (ztb_of k_639 rfl) s_Or_find d_Ho_told_41 (Nat.le_of_ble_eq_true rfl) (Nat.le_of_ble_eq_true rfl) (Nat.le_of_ble_eq_true rfl) (Nat.le_of_ble_eq_true rfl) ((hs.pick 2 rfl).get (t := 0) rfl) (c_Or_find (hs.pick 2 rfl) h1.1 (Nat.le_trans h1.2 (by decide)) ?_)
    rw [hf]
    refine zo_astore (i := i_Ho_told) (pc := 44) d_Ho_told_44 rfl (Nat.le_of_ble_eq_true rfl) ?_
    refine zo_aload (i := i_Ho_told) (pc := 46) d_Ho_told_46 rfl rfl ?_
    refine zo_ifnull (i := i_Ho_told) (pc := 48) (tgt := 67) d_Ho_told_48 (by decide) rfl (fun h48 => ?_) (fun h48 => False.elim (by first | exact absurd h48 ((by rintro ⟨_, q⟩; cases q)) | exact absurd ((by rintro ⟨_, q⟩; cases q)) h48))
    have kn : ∀ w, hH g A (toldN (s, u, ow.2.map Prod.snd, nb.2.map Prod.snd, ro.2.map Prod.snd, pf.2.map Prod.snd, pa.2.map Prod.snd, hd) t n fl) R w → post none w := by
      unfold toldT at k
      rw [hfs] at k
      exact k
    have hf2s := find_snd (fun e : zND => decide (e.1 = t)) nb.2
    cases hf2 : nb.2.find? (fun e => decide (e.2.1 = t)) with
    | none =>
      refine zo_aload_n (i := i_Ho_told) (pc := 67) d_Ho_told_67 rfl rfl ?_
      refine zo_get (i := i_Ho_told) (pc := 68) 9 3 rfl zok_Ho (Nat.le_of_ble_eq_true rfl) (ztb_of k_265 rfl) d_Ho_told_68 (fun _ _ _ h => h) (hs.get (t := 0) rfl) rfl ?_
      refine zo_iload_n (i := i_Ho_told) (pc := 71) d_Ho_told_71 rfl ?_
      refine zc_VN1 (i := i_Ho_told) (pc := 72) 3 rfl m_Nr_find (ztb_of k_309 rfl) (ztb_of k_311 rfl) s_Nr_find d_Ho_told_72 (Nat.le_of_ble_eq_true rfl) (Nat.le_of_ble_eq_true rfl) (Nat.le_of_ble_eq_true rfl) (Nat.le_of_ble_eq_true rfl) ((hs.pick 3 rfl).get (t := 0) rfl) (c_Nr_find (hs.pick 3 rfl) h2.1 (Nat.le_trans h2.2 (by decide)) ?_)
      rw [hf2]
      refine zo_astore (i := i_Ho_told) (pc := 75) d_Ho_told_75 rfl (Nat.le_of_ble_eq_true rfl) ?_
      refine zo_aload (i := i_Ho_told) (pc := 77) d_Ho_told_77 rfl rfl ?_
      refine zo_ifnull (i := i_Ho_told) (pc := 79) (tgt := 90) d_Ho_told_79 (by decide) rfl (fun h79 => ?_) (fun h79 => False.elim (by first | exact absurd h79 ((by rintro ⟨_, q⟩; cases q)) | exact absurd ((by rintro ⟨_, q⟩; cases q)) h79))
      refine zo_return (i := i_Ho_told) (pc := 90) hq d_Ho_told_90 rfl (Nat.le_of_ble_eq_true rfl) (Nat.le_of_ble_eq_true rfl) ?_
      unfold toldN at kn
      rw [hf2s, hf2] at kn
      exact kn ws h0
    | some e2 =>
      obtain ⟨j2, hj2, hp2, hno2⟩ := zfind_idx hf2
      unfold toldN at kn
      rw [hf2s, hf2] at kn
      replace kn : ∀ w, hH g A (if ¬ e2.2.2.2.1 = 1 ∧ ¬ e2.2.2.1 = n ∧ fl &&& 4 = 0 then tN (s, u, ow.2.map Prod.snd, nb.2.map Prod.snd, ro.2.map Prod.snd, pf.2.map Prod.snd, pa.2.map Prod.snd, hd) (zset1 (fun e => decide (e.1 = t)) (fun x => if x.2.2.1 = 2 then ndS x 3 s.2.1 else x) (nb.2.map Prod.snd)) else tR (tU (tN (s, u, ow.2.map Prod.snd, nb.2.map Prod.snd, ro.2.map Prod.snd, pf.2.map Prod.snd, pa.2.map Prod.snd, hd) (zset1 (fun e => decide (e.1 = t)) (fun x => ndR (hnX s.2.1 n fl x) (!decide (fl &&& 1 = 0))) (nb.2.map Prod.snd))) (hnU u e2.2)) (rdrop (ro.2.map Prod.snd) (hnX s.2.1 n fl e2.2) (!decide (fl &&& 1 = 0)))) R w → post none w := kn
      refine zo_aload_n (i := i_Ho_told) (pc := 67) d_Ho_told_67 rfl rfl ?_
      refine zo_get (i := i_Ho_told) (pc := 68) 9 3 rfl zok_Ho (Nat.le_of_ble_eq_true rfl) (ztb_of k_265 rfl) d_Ho_told_68 (fun _ _ _ h => h) (hs.get (t := 0) rfl) rfl ?_
      refine zo_iload_n (i := i_Ho_told) (pc := 71) d_Ho_told_71 rfl ?_
      refine zc_VN1 (i := i_Ho_told) (pc := 72) 3 rfl m_Nr_find (ztb_of k_309 rfl) (ztb_of k_311 rfl) s_Nr_find d_Ho_told_72 (Nat.le_of_ble_eq_true rfl) (Nat.le_of_ble_eq_true rfl) (Nat.le_of_ble_eq_true rfl) (Nat.le_of_ble_eq_true rfl) ((hs.pick 3 rfl).get (t := 0) rfl) (c_Nr_find (hs.pick 3 rfl) h2.1 (Nat.le_trans h2.2 (by decide)) ?_)
      rw [hf2]
      refine zo_astore (i := i_Ho_told) (pc := 75) d_Ho_told_75 rfl (Nat.le_of_ble_eq_true rfl) ?_
      refine zo_aload (i := i_Ho_told) (pc := 77) d_Ho_told_77 rfl rfl ?_
      refine zo_ifnull (i := i_Ho_told) (pc := 79) (tgt := 90) d_Ho_told_79 (by decide) rfl (fun h79 => False.elim (by first | exact absurd h79 ((by intro q; cases q)) | exact absurd ((by intro q; cases q)) h79)) (fun h79 => ?_)
      refine zo_aload_n (i := i_Ho_told) (pc := 82) d_Ho_told_82 rfl rfl ?_
      refine zo_aload (i := i_Ho_told) (pc := 83) d_Ho_told_83 rfl rfl ?_
      refine zo_iload_n (i := i_Ho_told) (pc := 85) d_Ho_told_85 rfl ?_
      refine zo_iload_n (i := i_Ho_told) (pc := 86) d_Ho_told_86 rfl ?_
      refine zc_V3 (i := i_Ho_told) (pc := 87) 9 rfl m_Ho_hearNumber (ztb_of k_676 rfl) (ztb_of k_678 rfl) s_Ho_hearNumber d_Ho_told_87 (Nat.le_of_ble_eq_true rfl) (Nat.le_of_ble_eq_true rfl) (Nat.le_of_ble_eq_true rfl) (Nat.le_of_ble_eq_true rfl) (hs.get (t := 0) rfl) (c_Ho_hearNumber h2 h3 hs hj2 (fun hst ws hs => ?_) (fun hst ro' ws h3' e3' hs => ?_))

      · refine zo_return (i := i_Ho_told) (pc := 90) hq d_Ho_told_90 rfl (Nat.le_of_ble_eq_true rfl) (Nat.le_of_ble_eq_true rfl) ?_
        rw [if_pos hst] at kn
        exact kn ws ⟨_, _, _, _, _, h1, (hok_set h2), h3, h4, h5, rfl, (set_snd (p := fun e => decide (e.1 = t)) (f := fun x => if x.2.2.1 = 2 then ndS x 3 s.2.1 else x) hno2 hj2 hp2), rfl, rfl, rfl, h6, hs⟩
      · refine zo_return (i := i_Ho_told) (pc := 90) hq d_Ho_told_90 rfl (Nat.le_of_ble_eq_true rfl) (Nat.le_of_ble_eq_true rfl) ?_
        rw [if_neg hst] at kn
        exact kn ws ⟨_, _, _, _, _, h1, (hok_set h2), h3', h4, h5, rfl, (set_snd (p := fun e => decide (e.1 = t)) (f := fun x => ndR (hnX s.2.1 n fl x) (!decide (fl &&& 1 = 0))) hno2 hj2 hp2), e3', rfl, rfl, h6, hs⟩
  | some e =>
    rw [hf] at hfs
    obtain ⟨j, hj, hpj, hno⟩ := zfind_idx hf
    have hkey : e.2.1 = t := of_decide_eq_true hpj
    have hse := rw_el (hs.pick 2 rfl) hj
    refine zo_iload_n (i := i_Ho_told) (pc := 0) d_Ho_told_0 rfl ?_
    refine zc_S1 (i := i_Ho_told) (pc := 1) m_Ho_isAddress (ztb_of k_652 rfl) (ztb_of k_653 rfl) d_Ho_told_1 (Nat.le_of_ble_eq_true rfl) (Nat.le_of_ble_eq_true rfl) (Nat.le_of_ble_eq_true rfl) (Nat.le_of_ble_eq_true rfl) (c_Ho_isAddress ?_)
    refine zo_if_eq (i := i_Ho_told) (pc := 4) (tgt := 28) d_Ho_told_4 (by decide) (fun v4 => False.elim (by first | exact absurd v4 ((zb_t ht)) | exact absurd ((zb_t ht)) v4)) (fun v4 => ?_)
    refine zo_iload_n (i := i_Ho_told) (pc := 7) d_Ho_told_7 rfl ?_
    refine zc_S1 (i := i_Ho_told) (pc := 8) m_Ho_isNumber (ztb_of k_509 rfl) (ztb_of k_510 rfl) d_Ho_told_8 (Nat.le_of_ble_eq_true rfl) (Nat.le_of_ble_eq_true rfl) (Nat.le_of_ble_eq_true rfl) (Nat.le_of_ble_eq_true rfl) (c_Ho_isNumber ?_)
    refine zo_if_eq (i := i_Ho_told) (pc := 11) (tgt := 28) d_Ho_told_11 (by decide) (fun v11 => False.elim (by first | exact absurd v11 ((zb_t hn)) | exact absurd ((zb_t hn)) v11)) (fun v11 => ?_)
    refine zo_iload_n (i := i_Ho_told) (pc := 14) d_Ho_told_14 rfl ?_
    refine zo_iconst (i := i_Ho_told) (pc := 15) (v := 0) d_Ho_told_15 (by decide) ?_
    refine zo_bipush (i := i_Ho_told) (pc := 16) (v := 7) d_Ho_told_16 (by decide) ?_
    refine zc_S3 (i := i_Ho_told) (pc := 18) m_Ho_isWithin (ztb_of k_359 rfl) (ztb_of k_360 rfl) d_Ho_told_18 (Nat.le_of_ble_eq_true rfl) (Nat.le_of_ble_eq_true rfl) (Nat.le_of_ble_eq_true rfl) (Nat.le_of_ble_eq_true rfl) (c_Ho_isWithin ?_)
    refine zo_if_eq (i := i_Ho_told) (pc := 21) (tgt := 28) d_Ho_told_21 (by decide) (fun v21 => False.elim (by first | exact absurd v21 ((zb_t hfl)) | exact absurd ((zb_t hfl)) v21)) (fun v21 => ?_)
    refine zo_iconst (i := i_Ho_told) (pc := 24) (v := 1) d_Ho_told_24 (by decide) ?_
    refine zo_goto (i := i_Ho_told) (pc := 25) (tgt := 29) d_Ho_told_25 (by decide) ?_
    refine zc_S1 (i := i_Ho_told) (pc := 29) m_Ho_requireArguments (ztb_of k_362 rfl) (ztb_of k_363 rfl) d_Ho_told_29 (Nat.le_of_ble_eq_true rfl) (Nat.le_of_ble_eq_true rfl) (Nat.le_of_ble_eq_true rfl) (Nat.le_of_ble_eq_true rfl) (c_Ho_requireArguments (by decide) ?_)
    refine zo_aload_n (i := i_Ho_told) (pc := 32) d_Ho_told_32 rfl rfl ?_
    refine zc_V0 (i := i_Ho_told) (pc := 33) 9 rfl m_Ho_requireUp (ztb_of k_515 rfl) (ztb_of k_517 rfl) s_Ho_requireUp d_Ho_told_33 (Nat.le_of_ble_eq_true rfl) (Nat.le_of_ble_eq_true rfl) (Nat.le_of_ble_eq_true rfl) (Nat.le_of_ble_eq_true rfl) (hs.get (t := 0) rfl) (c_Ho_requireUp (A := A) (s := s) (hs.get (t := 0) rfl) hu ?_)
    refine zo_aload_n (i := i_Ho_told) (pc := 36) d_Ho_told_36 rfl rfl ?_
    refine zo_get (i := i_Ho_told) (pc := 37) 9 2 rfl zok_Ho (Nat.le_of_ble_eq_true rfl) (ztb_of k_264 rfl) d_Ho_told_37 (fun _ _ _ h => h) (hs.get (t := 0) rfl) rfl ?_
    refine zo_iload_n (i := i_Ho_told) (pc := 40) d_Ho_told_40 rfl ?_
    refine zc_VN1 (i := i_Ho_told) (pc := 41) 6 rfl m_Or_find (ztb_of k_637 rfl) (ztb_of k_639 rfl) s_Or_find d_Ho_told_41 (Nat.le_of_ble_eq_true rfl) (Nat.le_of_ble_eq_true rfl) (Nat.le_of_ble_eq_true rfl) (Nat.le_of_ble_eq_true rfl) ((hs.pick 2 rfl).get (t := 0) rfl) (c_Or_find (hs.pick 2 rfl) h1.1 (Nat.le_trans h1.2 (by decide)) ?_)
    rw [hf]
    refine zo_astore (i := i_Ho_told) (pc := 44) d_Ho_told_44 rfl (Nat.le_of_ble_eq_true rfl) ?_
    refine zo_aload (i := i_Ho_told) (pc := 46) d_Ho_told_46 rfl rfl ?_
    refine zo_ifnull (i := i_Ho_told) (pc := 48) (tgt := 67) d_Ho_told_48 (by decide) rfl (fun h48 => False.elim (by first | exact absurd h48 ((by intro q; cases q)) | exact absurd ((by intro q; cases q)) h48)) (fun h48 => ?_)
    refine zo_aload (i := i_Ho_told) (pc := 51) d_Ho_told_51 rfl rfl ?_
    refine zo_getN (i := i_Ho_told) (pc := 53) 5 2 rfl zok_Oa (Nat.le_of_ble_eq_true rfl) (ztb_of k_174 rfl) d_Ho_told_53 (fun _ _ _ h => h) hse rfl ?_
    refine zo_iconst (i := i_Ho_told) (pc := 56) (v := 1) d_Ho_told_56 (by decide) ?_
    refine zo_icmp_ne (i := i_Ho_told) (pc := 57) (tgt := 67) d_Ho_told_57 (by decide) (fun h57 => ?_) (fun h57 => ?_)
    · have kn : ∀ w, hH g A (toldN (s, u, ow.2.map Prod.snd, nb.2.map Prod.snd, ro.2.map Prod.snd, pf.2.map Prod.snd, pa.2.map Prod.snd, hd) t n fl) R w → post none w := by
        unfold toldT at k
        rw [hfs] at k
        replace k : ∀ w, hH g A (if e.2.2.2.1 = 1 then dupT (s, u, ow.2.map Prod.snd, nb.2.map Prod.snd, ro.2.map Prod.snd, pf.2.map Prod.snd, pa.2.map Prod.snd, hd) t e.2 else toldN (s, u, ow.2.map Prod.snd, nb.2.map Prod.snd, ro.2.map Prod.snd, pf.2.map Prod.snd, pa.2.map Prod.snd, hd) t n fl) R w → post none w := k
        rw [if_neg h57] at k
        exact k
      have hf2s := find_snd (fun e : zND => decide (e.1 = t)) nb.2
      cases hf2 : nb.2.find? (fun e => decide (e.2.1 = t)) with
      | none =>
        refine zo_aload_n (i := i_Ho_told) (pc := 67) d_Ho_told_67 rfl rfl ?_
        refine zo_get (i := i_Ho_told) (pc := 68) 9 3 rfl zok_Ho (Nat.le_of_ble_eq_true rfl) (ztb_of k_265 rfl) d_Ho_told_68 (fun _ _ _ h => h) (hs.get (t := 0) rfl) rfl ?_
        refine zo_iload_n (i := i_Ho_told) (pc := 71) d_Ho_told_71 rfl ?_
        refine zc_VN1 (i := i_Ho_told) (pc := 72) 3 rfl m_Nr_find (ztb_of k_309 rfl) (ztb_of k_311 rfl) s_Nr_find d_Ho_told_72 (Nat.le_of_ble_eq_true rfl) (Nat.le_of_ble_eq_true rfl) (Nat.le_of_ble_eq_true rfl) (Nat.le_of_ble_eq_true rfl) ((hs.pick 3 rfl).get (t := 0) rfl) (c_Nr_find (hs.pick 3 rfl) h2.1 (Nat.le_trans h2.2 (by decide)) ?_)
        rw [hf2]
        refine zo_astore (i := i_Ho_told) (pc := 75) d_Ho_told_75 rfl (Nat.le_of_ble_eq_true rfl) ?_
        refine zo_aload (i := i_Ho_told) (pc := 77) d_Ho_told_77 rfl rfl ?_
        refine zo_ifnull (i := i_Ho_told) (pc := 79) (tgt := 90) d_Ho_told_79 (by decide) rfl (fun h79 => ?_) (fun h79 => False.elim (by first | exact absurd h79 ((by rintro ⟨_, q⟩; cases q)) | exact absurd ((by rintro ⟨_, q⟩; cases q)) h79))
        refine zo_return (i := i_Ho_told) (pc := 90) hq d_Ho_told_90 rfl (Nat.le_of_ble_eq_true rfl) (Nat.le_of_ble_eq_true rfl) ?_
        unfold toldN at kn
        rw [hf2s, hf2] at kn
        exact kn ws h0
      | some e2 =>
        obtain ⟨j2, hj2, hp2, hno2⟩ := zfind_idx hf2
        unfold toldN at kn
        rw [hf2s, hf2] at kn
        replace kn : ∀ w, hH g A (if ¬ e2.2.2.2.1 = 1 ∧ ¬ e2.2.2.1 = n ∧ fl &&& 4 = 0 then tN (s, u, ow.2.map Prod.snd, nb.2.map Prod.snd, ro.2.map Prod.snd, pf.2.map Prod.snd, pa.2.map Prod.snd, hd) (zset1 (fun e => decide (e.1 = t)) (fun x => if x.2.2.1 = 2 then ndS x 3 s.2.1 else x) (nb.2.map Prod.snd)) else tR (tU (tN (s, u, ow.2.map Prod.snd, nb.2.map Prod.snd, ro.2.map Prod.snd, pf.2.map Prod.snd, pa.2.map Prod.snd, hd) (zset1 (fun e => decide (e.1 = t)) (fun x => ndR (hnX s.2.1 n fl x) (!decide (fl &&& 1 = 0))) (nb.2.map Prod.snd))) (hnU u e2.2)) (rdrop (ro.2.map Prod.snd) (hnX s.2.1 n fl e2.2) (!decide (fl &&& 1 = 0)))) R w → post none w := kn
        refine zo_aload_n (i := i_Ho_told) (pc := 67) d_Ho_told_67 rfl rfl ?_
        refine zo_get (i := i_Ho_told) (pc := 68) 9 3 rfl zok_Ho (Nat.le_of_ble_eq_true rfl) (ztb_of k_265 rfl) d_Ho_told_68 (fun _ _ _ h => h) (hs.get (t := 0) rfl) rfl ?_
        refine zo_iload_n (i := i_Ho_told) (pc := 71) d_Ho_told_71 rfl ?_
        refine zc_VN1 (i := i_Ho_told) (pc := 72) 3 rfl m_Nr_find (ztb_of k_309 rfl) (ztb_of k_311 rfl) s_Nr_find d_Ho_told_72 (Nat.le_of_ble_eq_true rfl) (Nat.le_of_ble_eq_true rfl) (Nat.le_of_ble_eq_true rfl) (Nat.le_of_ble_eq_true rfl) ((hs.pick 3 rfl).get (t := 0) rfl) (c_Nr_find (hs.pick 3 rfl) h2.1 (Nat.le_trans h2.2 (by decide)) ?_)
        rw [hf2]
        refine zo_astore (i := i_Ho_told) (pc := 75) d_Ho_told_75 rfl (Nat.le_of_ble_eq_true rfl) ?_
        refine zo_aload (i := i_Ho_told) (pc := 77) d_Ho_told_77 rfl rfl ?_
        refine zo_ifnull (i := i_Ho_told) (pc := 79) (tgt := 90) d_Ho_told_79 (by decide) rfl (fun h79 => False.elim (by first | exact absurd h79 ((by intro q; cases q)) | exact absurd ((by intro q; cases q)) h79)) (fun h79 => ?_)
        refine zo_aload_n (i := i_Ho_told) (pc := 82) d_Ho_told_82 rfl rfl ?_
        refine zo_aload (i := i_Ho_told) (pc := 83) d_Ho_told_83 rfl rfl ?_
        refine zo_iload_n (i := i_Ho_told) (pc := 85) d_Ho_told_85 rfl ?_
        refine zo_iload_n (i := i_Ho_told) (pc := 86) d_Ho_told_86 rfl ?_
        refine zc_V3 (i := i_Ho_told) (pc := 87) 9 rfl m_Ho_hearNumber (ztb_of k_676 rfl) (ztb_of k_678 rfl) s_Ho_hearNumber d_Ho_told_87 (Nat.le_of_ble_eq_true rfl) (Nat.le_of_ble_eq_true rfl) (Nat.le_of_ble_eq_true rfl) (Nat.le_of_ble_eq_true rfl) (hs.get (t := 0) rfl) (c_Ho_hearNumber h2 h3 hs hj2 (fun hst ws hs => ?_) (fun hst ro' ws h3' e3' hs => ?_))

        · refine zo_return (i := i_Ho_told) (pc := 90) hq d_Ho_told_90 rfl (Nat.le_of_ble_eq_true rfl) (Nat.le_of_ble_eq_true rfl) ?_
          rw [if_pos hst] at kn
          exact kn ws ⟨_, _, _, _, _, h1, (hok_set h2), h3, h4, h5, rfl, (set_snd (p := fun e => decide (e.1 = t)) (f := fun x => if x.2.2.1 = 2 then ndS x 3 s.2.1 else x) hno2 hj2 hp2), rfl, rfl, rfl, h6, hs⟩
        · refine zo_return (i := i_Ho_told) (pc := 90) hq d_Ho_told_90 rfl (Nat.le_of_ble_eq_true rfl) (Nat.le_of_ble_eq_true rfl) ?_
          rw [if_neg hst] at kn
          exact kn ws ⟨_, _, _, _, _, h1, (hok_set h2), h3', h4, h5, rfl, (set_snd (p := fun e => decide (e.1 = t)) (f := fun x => ndR (hnX s.2.1 n fl x) (!decide (fl &&& 1 = 0))) hno2 hj2 hp2), e3', rfl, rfl, h6, hs⟩
    · refine zo_aload_n (i := i_Ho_told) (pc := 60) d_Ho_told_60 rfl rfl ?_
      refine zo_aload (i := i_Ho_told) (pc := 61) d_Ho_told_61 rfl rfl ?_
      refine zc_V1 (i := i_Ho_told) (pc := 63) 9 rfl m_Ho_markDuplicate (ztb_of k_662 rfl) (ztb_of k_664 rfl) s_Ho_markDuplicate d_Ho_told_63 (Nat.le_of_ble_eq_true rfl) (Nat.le_of_ble_eq_true rfl) (Nat.le_of_ble_eq_true rfl) (Nat.le_of_ble_eq_true rfl) (hs.get (t := 0) rfl) (c_Ho_markDuplicate (hv_ow hs hj) fun ws hs => ?_)
      replace hs := hu_ow (y := oaS e.2 4) hj hs
      refine zo_return (i := i_Ho_told) (pc := 66) hq d_Ho_told_66 rfl (Nat.le_of_ble_eq_true rfl) (Nat.le_of_ble_eq_true rfl) ?_
      unfold toldT at k
      rw [hfs] at k
      replace k : ∀ w, hH g A (if e.2.2.2.1 = 1 then dupT (s, u, ow.2.map Prod.snd, nb.2.map Prod.snd, ro.2.map Prod.snd, pf.2.map Prod.snd, pa.2.map Prod.snd, hd) t e.2 else toldN (s, u, ow.2.map Prod.snd, nb.2.map Prod.snd, ro.2.map Prod.snd, pf.2.map Prod.snd, pa.2.map Prod.snd, hd) t n fl) R w → post none w := k
      rw [if_pos h57] at k
      exact k ws ⟨_, _, _, _, _, (hok_set h1), h2, h3, h4, h5, (set_snd (p := fun e => decide (e.1 = t)) (f := fun x => oaS x 4) hno hj hpj), rfl, rfl, rfl, rfl, h6, hs⟩
