/-! What the host refuses by an index, and a header too many (walks by a program, gen46.py). -/
theorem t_Ho_own_index {g : zG} {ws : va_W} (hnt : g.1.stackTraces = false) {A : Nat → Nat} {q : hT} {R : va_W} (h : hH g A q R ws) {j : Int32} (hb : ¬ (¬ j < 0 ∧ j < nI q.2.2.1.length)) : zCT g i_Ho_own [.ref (A 0), .int j] ws "java/lang/IndexOutOfBoundsException" := by
  refine zCT.walk (by decide +kernel) rfl (Nat.le_of_ble_eq_true rfl) fun x0 hq hE => ?_
  obtain ⟨s, u, lo, ln, lr, lp, la, hd⟩ := q
  obtain ⟨ow, nb, ro, pf, pa, h1x, h2x, h3x, h4x, h5x, rfl, rfl, rfl, rfl, rfl, h6x, hs⟩ := h
  replace hs : zHas ws (hL g A s u ow nb ro pf pa hd R).flatten := hs
  replace hb : ¬ (¬ j < 0 ∧ j < nI (ow.2.map Prod.snd).length) := hb
  rw [List.length_map] at hb
  refine zo_iload_n (i := i_Ho_own) (pc := 0) d_Ho_own_0 rfl ?_
  refine zo_aload_n (i := i_Ho_own) (pc := 1) d_Ho_own_1 rfl rfl ?_
  refine zo_get (i := i_Ho_own) (pc := 2) 9 2 rfl zok_Ho (Nat.le_of_ble_eq_true rfl) (ztb_of k_264 rfl) d_Ho_own_2 (fun _ _ _ h => h) (hs.get (t := 0) rfl) rfl ?_
  refine zc_VN0 (i := i_Ho_own) (pc := 5) 6 rfl m_Or_length (ztb_of k_453 rfl) (ztb_of k_455 rfl) s_Or_length d_Ho_own_5 (Nat.le_of_ble_eq_true rfl) (Nat.le_of_ble_eq_true rfl) (Nat.le_of_ble_eq_true rfl) (Nat.le_of_ble_eq_true rfl) ((hs.pick 2 rfl).get (t := 0) rfl) (c_Or_length (hs.pick 2 rfl) h1x.1 (Nat.le_trans h1x.2 (by decide)) ?_)
  exact zt_callS (i := i_Ho_own) (pc := 8) (av := [.int j, .int (nI ow.2.length)]) hq hE m_Ho_requireIndex (ztb_of k_783 rfl) (ztb_of k_784 rfl) d_Ho_own_8 rfl (Nat.le_of_ble_eq_true rfl) (Nat.le_of_ble_eq_true rfl) (Nat.le_of_ble_eq_true rfl) (Nat.le_of_ble_eq_true rfl) rfl (t_Ho_requireIndex hnt hb)
theorem t_Ho_until_index {g : zG} {ws : va_W} (hnt : g.1.stackTraces = false) {A : Nat → Nat} {q : hT} {R : va_W} (h : hH g A q R ws) {j : Int32} (hb : ¬ (¬ j < 0 ∧ j < nI q.2.2.1.length)) : zCT g i_Ho_until [.ref (A 0), .int j] ws "java/lang/IndexOutOfBoundsException" := by
  refine zCT.walk (by decide +kernel) rfl (Nat.le_of_ble_eq_true rfl) fun x0 hq hE => ?_
  obtain ⟨s, u, lo, ln, lr, lp, la, hd⟩ := q
  obtain ⟨ow, nb, ro, pf, pa, h1x, h2x, h3x, h4x, h5x, rfl, rfl, rfl, rfl, rfl, h6x, hs⟩ := h
  replace hs : zHas ws (hL g A s u ow nb ro pf pa hd R).flatten := hs
  replace hb : ¬ (¬ j < 0 ∧ j < nI (ow.2.map Prod.snd).length) := hb
  rw [List.length_map] at hb
  refine zo_iload_n (i := i_Ho_until) (pc := 0) d_Ho_until_0 rfl ?_
  refine zo_aload_n (i := i_Ho_until) (pc := 1) d_Ho_until_1 rfl rfl ?_
  refine zo_get (i := i_Ho_until) (pc := 2) 9 2 rfl zok_Ho (Nat.le_of_ble_eq_true rfl) (ztb_of k_264 rfl) d_Ho_until_2 (fun _ _ _ h => h) (hs.get (t := 0) rfl) rfl ?_
  refine zc_VN0 (i := i_Ho_until) (pc := 5) 6 rfl m_Or_length (ztb_of k_453 rfl) (ztb_of k_455 rfl) s_Or_length d_Ho_until_5 (Nat.le_of_ble_eq_true rfl) (Nat.le_of_ble_eq_true rfl) (Nat.le_of_ble_eq_true rfl) (Nat.le_of_ble_eq_true rfl) ((hs.pick 2 rfl).get (t := 0) rfl) (c_Or_length (hs.pick 2 rfl) h1x.1 (Nat.le_trans h1x.2 (by decide)) ?_)
  exact zt_callS (i := i_Ho_until) (pc := 8) (av := [.int j, .int (nI ow.2.length)]) hq hE m_Ho_requireIndex (ztb_of k_783 rfl) (ztb_of k_784 rfl) d_Ho_until_8 rfl (Nat.le_of_ble_eq_true rfl) (Nat.le_of_ble_eq_true rfl) (Nat.le_of_ble_eq_true rfl) (Nat.le_of_ble_eq_true rfl) rfl (t_Ho_requireIndex hnt hb)
theorem t_Ho_outKind_index {g : zG} {ws : va_W} (hnt : g.1.stackTraces = false) {A : Nat → Nat} {q : hT} {R : va_W} (h : hH g A q R ws) {j : Int32} (hb : ¬ (¬ j < 0 ∧ j < nI (min q.2.1.1 12))) : zCT g i_Ho_outKind [.ref (A 0), .int j] ws "java/lang/IndexOutOfBoundsException" := by
  refine zCT.walk (by decide +kernel) rfl (Nat.le_of_ble_eq_true rfl) fun x0 hq hE => ?_
  obtain ⟨s, u, lo, ln, lr, lp, la, hd⟩ := q
  obtain ⟨ow, nb, ro, pf, pa, h1x, h2x, h3x, h4x, h5x, rfl, rfl, rfl, rfl, rfl, h6x, hs⟩ := h
  replace hs : zHas ws (hL g A s u ow nb ro pf pa hd R).flatten := hs
  refine zo_iload_n (i := i_Ho_outKind) (pc := 0) d_Ho_outKind_0 rfl ?_
  refine zo_aload_n (i := i_Ho_outKind) (pc := 1) d_Ho_outKind_1 rfl rfl ?_
  refine zo_get (i := i_Ho_outKind) (pc := 2) 9 1 rfl zok_Ho (Nat.le_of_ble_eq_true rfl) (ztb_of k_263 rfl) d_Ho_outKind_2 (fun _ _ _ h => h) (hs.get (t := 0) rfl) rfl ?_
  refine zo_getN (i := i_Ho_outKind) (pc := 5) 4 4 rfl zok_Ou (Nat.le_of_ble_eq_true rfl) (ztb_of k_48 rfl) d_Ho_outKind_5 (fun _ _ _ h => h) ((hs.pick 1 rfl).get (t := 0) rfl) rfl ?_
  exact zt_callS (i := i_Ho_outKind) (pc := 8) (av := [.int j, .int (nI (min u.1 12))]) hq hE m_Ho_requireIndex (ztb_of k_783 rfl) (ztb_of k_784 rfl) d_Ho_outKind_8 rfl (Nat.le_of_ble_eq_true rfl) (Nat.le_of_ble_eq_true rfl) (Nat.le_of_ble_eq_true rfl) (Nat.le_of_ble_eq_true rfl) rfl (t_Ho_requireIndex hnt hb)
theorem t_Ho_outTo_index {g : zG} {ws : va_W} (hnt : g.1.stackTraces = false) {A : Nat → Nat} {q : hT} {R : va_W} (h : hH g A q R ws) {j : Int32} (hb : ¬ (¬ j < 0 ∧ j < nI (min q.2.1.1 12))) : zCT g i_Ho_outTo [.ref (A 0), .int j] ws "java/lang/IndexOutOfBoundsException" := by
  refine zCT.walk (by decide +kernel) rfl (Nat.le_of_ble_eq_true rfl) fun x0 hq hE => ?_
  obtain ⟨s, u, lo, ln, lr, lp, la, hd⟩ := q
  obtain ⟨ow, nb, ro, pf, pa, h1x, h2x, h3x, h4x, h5x, rfl, rfl, rfl, rfl, rfl, h6x, hs⟩ := h
  replace hs : zHas ws (hL g A s u ow nb ro pf pa hd R).flatten := hs
  refine zo_iload_n (i := i_Ho_outTo) (pc := 0) d_Ho_outTo_0 rfl ?_
  refine zo_aload_n (i := i_Ho_outTo) (pc := 1) d_Ho_outTo_1 rfl rfl ?_
  refine zo_get (i := i_Ho_outTo) (pc := 2) 9 1 rfl zok_Ho (Nat.le_of_ble_eq_true rfl) (ztb_of k_263 rfl) d_Ho_outTo_2 (fun _ _ _ h => h) (hs.get (t := 0) rfl) rfl ?_
  refine zo_getN (i := i_Ho_outTo) (pc := 5) 4 4 rfl zok_Ou (Nat.le_of_ble_eq_true rfl) (ztb_of k_48 rfl) d_Ho_outTo_5 (fun _ _ _ h => h) ((hs.pick 1 rfl).get (t := 0) rfl) rfl ?_
  exact zt_callS (i := i_Ho_outTo) (pc := 8) (av := [.int j, .int (nI (min u.1 12))]) hq hE m_Ho_requireIndex (ztb_of k_783 rfl) (ztb_of k_784 rfl) d_Ho_outTo_8 rfl (Nat.le_of_ble_eq_true rfl) (Nat.le_of_ble_eq_true rfl) (Nat.le_of_ble_eq_true rfl) (Nat.le_of_ble_eq_true rfl) rfl (t_Ho_requireIndex hnt hb)
theorem t_Ho_outX_index {g : zG} {ws : va_W} (hnt : g.1.stackTraces = false) {A : Nat → Nat} {q : hT} {R : va_W} (h : hH g A q R ws) {j : Int32} (hb : ¬ (¬ j < 0 ∧ j < nI (min q.2.1.1 12))) : zCT g i_Ho_outX [.ref (A 0), .int j] ws "java/lang/IndexOutOfBoundsException" := by
  refine zCT.walk (by decide +kernel) rfl (Nat.le_of_ble_eq_true rfl) fun x0 hq hE => ?_
  obtain ⟨s, u, lo, ln, lr, lp, la, hd⟩ := q
  obtain ⟨ow, nb, ro, pf, pa, h1x, h2x, h3x, h4x, h5x, rfl, rfl, rfl, rfl, rfl, h6x, hs⟩ := h
  replace hs : zHas ws (hL g A s u ow nb ro pf pa hd R).flatten := hs
  refine zo_iload_n (i := i_Ho_outX) (pc := 0) d_Ho_outX_0 rfl ?_
  refine zo_aload_n (i := i_Ho_outX) (pc := 1) d_Ho_outX_1 rfl rfl ?_
  refine zo_get (i := i_Ho_outX) (pc := 2) 9 1 rfl zok_Ho (Nat.le_of_ble_eq_true rfl) (ztb_of k_263 rfl) d_Ho_outX_2 (fun _ _ _ h => h) (hs.get (t := 0) rfl) rfl ?_
  refine zo_getN (i := i_Ho_outX) (pc := 5) 4 4 rfl zok_Ou (Nat.le_of_ble_eq_true rfl) (ztb_of k_48 rfl) d_Ho_outX_5 (fun _ _ _ h => h) ((hs.pick 1 rfl).get (t := 0) rfl) rfl ?_
  exact zt_callS (i := i_Ho_outX) (pc := 8) (av := [.int j, .int (nI (min u.1 12))]) hq hE m_Ho_requireIndex (ztb_of k_783 rfl) (ztb_of k_784 rfl) d_Ho_outX_8 rfl (Nat.le_of_ble_eq_true rfl) (Nat.le_of_ble_eq_true rfl) (Nat.le_of_ble_eq_true rfl) (Nat.le_of_ble_eq_true rfl) rfl (t_Ho_requireIndex hnt hb)
theorem r_Hd_isFull {g : zG} {n0 : Nat} {ws : va_W} {post : Option Value → va_W → Prop} {a : Nat} {n : Int32} {fs : List Value} (hlt : ∀ (k : Nat) (q : Nat × va_E), ws[k]? = some q → q.1 < n0) (he : zget ws a = some (.inr (1, fs))) (hv : fs[2]? = some (.int n)) (h6 : ¬ n < 6) (k : post (some (.int 1)) []) : zCR g n0 i_Hd_isFull [.ref a] ws post := by
  refine zCR.intro (by decide +kernel) rfl (Nat.le_of_ble_eq_true rfl) fun x0 hq h0 => ?_
  refine zo_aload_n (i := i_Hd_isFull) (pc := 0) d_Hd_isFull_0 rfl rfl ?_
  refine zx_get (i := i_Hd_isFull) (pc := 1) 1 2 rfl zok_Hd (Nat.le_of_ble_eq_true rfl) (ztb_of k_138 rfl) d_Hd_isFull_1 (fun _ _ _ h => h) h0 hlt he hv ?_
  refine zo_bipush (i := i_Hd_isFull) (pc := 4) (v := 6) d_Hd_isFull_4 (by decide) ?_
  refine zo_icmp_lt (i := i_Hd_isFull) (pc := 6) (tgt := 13) d_Hd_isFull_6 (by decide) (fun h => absurd h h6) (fun h => ?_)
  refine zo_iconst (i := i_Hd_isFull) (pc := 9) (v := 1) d_Hd_isFull_9 (by decide) ?_
  refine zo_goto (i := i_Hd_isFull) (pc := 10) (tgt := 14) d_Hd_isFull_10 (by decide) ?_
  exact zo_zreturn (i := i_Hd_isFull) (pc := 14) hq d_Hd_isFull_14 rfl rfl (Nat.le_of_ble_eq_true rfl) (Nat.le_of_ble_eq_true rfl) k
theorem t_Ho_header_full {g : zG} {ws : va_W} (hnt : g.1.stackTraces = false) {A : Nat → Nat} {q : hT} {R : va_W} (h : hH g A q R ws) {a b : Int32} (ha : zwithin a 0 9 = true) (hb : zwithin b 0 3 = true) (h6n : ¬ q.2.2.2.2.2.2.2.1 < 6) : zCT g i_Ho_header [.ref (A 0), .int a, .int b] ws "java/lang/IllegalStateException" := by
  refine zCT.own (by decide +kernel) rfl (Nat.le_of_ble_eq_true rfl) fun x0 hq hE F h0 => ?_
  obtain ⟨s, u, lo, ln, lr, lp, la, hd⟩ := q
  obtain ⟨ow, nb, ro, pf, pa, h1x, h2x, h3x, h4x, h5x, rfl, rfl, rfl, rfl, rfl, h6x, hs⟩ := h
  replace hs : zHas ws (hL g A s u ow nb ro pf pa hd R).flatten := hs
  replace h6n : ¬ hd.1 < 6 := h6n
  replace h6x : hd.1 ≤ 6 := h6x
  have h6z : ¬ nI hd.1 < 6 := by
    have e : hd.1 = 6 := by omega
    rw [e]
    decide
  refine zo_iload_n (i := i_Ho_header) (pc := 0) d_Ho_header_0 rfl ?_
  refine zo_iconst (i := i_Ho_header) (pc := 1) (v := 0) d_Ho_header_1 (by decide) ?_
  refine zo_bipush (i := i_Ho_header) (pc := 2) (v := 9) d_Ho_header_2 (by decide) ?_
  refine zc_S3 (i := i_Ho_header) (pc := 4) m_Ho_isWithin (ztb_of k_359 rfl) (ztb_of k_360 rfl) d_Ho_header_4 (Nat.le_of_ble_eq_true rfl) (Nat.le_of_ble_eq_true rfl) (Nat.le_of_ble_eq_true rfl) (Nat.le_of_ble_eq_true rfl) (c_Ho_isWithin ?_)
  refine zo_if_eq (i := i_Ho_header) (pc := 7) (tgt := 23) d_Ho_header_7 (by decide) (fun h7 => False.elim (by first | exact absurd h7 ((zb_t ha)) | exact absurd ((zb_t ha)) h7)) (fun h7 => ?_)
  refine zo_iload_n (i := i_Ho_header) (pc := 10) d_Ho_header_10 rfl ?_
  refine zo_iconst (i := i_Ho_header) (pc := 11) (v := 0) d_Ho_header_11 (by decide) ?_
  refine zo_iconst (i := i_Ho_header) (pc := 12) (v := 3) d_Ho_header_12 (by decide) ?_
  refine zc_S3 (i := i_Ho_header) (pc := 13) m_Ho_isWithin (ztb_of k_359 rfl) (ztb_of k_360 rfl) d_Ho_header_13 (Nat.le_of_ble_eq_true rfl) (Nat.le_of_ble_eq_true rfl) (Nat.le_of_ble_eq_true rfl) (Nat.le_of_ble_eq_true rfl) (c_Ho_isWithin ?_)
  refine zo_if_eq (i := i_Ho_header) (pc := 16) (tgt := 23) d_Ho_header_16 (by decide) (fun h16 => False.elim (by first | exact absurd h16 ((zb_t hb)) | exact absurd ((zb_t hb)) h16)) (fun h16 => ?_)
  refine zo_iconst (i := i_Ho_header) (pc := 19) (v := 1) d_Ho_header_19 (by decide) ?_
  refine zo_goto (i := i_Ho_header) (pc := 20) (tgt := 24) d_Ho_header_20 (by decide) ?_
  refine zc_S1 (i := i_Ho_header) (pc := 24) m_Ho_requireArguments (ztb_of k_362 rfl) (ztb_of k_363 rfl) d_Ho_header_24 (Nat.le_of_ble_eq_true rfl) (Nat.le_of_ble_eq_true rfl) (Nat.le_of_ble_eq_true rfl) (Nat.le_of_ble_eq_true rfl) (c_Ho_requireArguments (by decide) ?_)
  refine zo_aload_n (i := i_Ho_header) (pc := 27) d_Ho_header_27 rfl rfl ?_
  refine zx_get (i := i_Ho_header) (pc := 28) 9 7 rfl zok_Ho (Nat.le_of_ble_eq_true rfl) (ztb_of k_269 rfl) d_Ho_header_28 (fun _ _ _ h => h) h0 (zlt_of h0) (hs.get (t := 0) rfl) rfl ?_
  refine zx_callVN (i := i_Ho_header) (pc := 31) (av := []) 1 rfl m_Hd_isFull (ztb_of k_732 rfl) (ztb_of k_734 rfl) s_Hd_isFull d_Ho_header_31 rfl h0 (zlt_of h0) ((hs.pick 7 rfl).get (t := 0) rfl) (Nat.le_of_ble_eq_true rfl) (Nat.le_of_ble_eq_true rfl) (Nat.le_of_ble_eq_true rfl) (Nat.le_of_ble_eq_true rfl) rfl (r_Hd_isFull (zlt_of h0) ((hs.pick 7 rfl).get (t := 0) rfl) rfl h6z ?_)
  refine zo_if_eq (i := i_Ho_header) (pc := 34) (tgt := 47) d_Ho_header_34 (by decide) (fun h => absurd h (by decide)) (fun h => ?_)
  exact zt_throwN (i := i_Ho_header) (pc := 37) (names := zup) (tx := "there are six headers") hq hE hnt F h0 rfl (List.mem_of_getElem? (i := 0) rfl) zat_IS (by decide +kernel) zfit_up (ztb_of k_519 rfl) (ztb_of k_520 rfl) (ztb_of k_22 rfl) d_Ho_header_37 d_Ho_header_40 d_Ho_header_41 d_Ho_header_43 d_Ho_header_46 (Nat.le_of_ble_eq_true rfl) (Nat.le_of_ble_eq_true rfl) (Nat.le_of_ble_eq_true rfl)
