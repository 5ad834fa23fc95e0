/-! The host: sending, learning, routers, headers (walks by a program, gen24.py). -/
section ZHost5
theorem set_last {α : Type} {l : List (Nat × α)} {b : Nat} {x y : α} : (l ++ [(b, x)]).set l.length (b, y) = l ++ [(b, y)] := by simp
def swX (t : Int32) (x : zND) : zND := if x.2.2.2.2.2 = 0 then x else ndW (ndD t x) 0
def swU (u : hOu) (x : zND) : hOu := if x.2.2.2.2.2 = 0 then u else ouAdd u 4 x.1 x.2.2.2.2.2
def lnX (t n : Int32) (x : zND) : zND := swX t (x.1, n, 3, t, x.2.2.2.2)
/-- a neighbour's number learnt -/
def lnT (q : hT) (a n : Int32) : hT := match q.2.2.2.1.find? (fun e => decide (e.1 = a)) with
  | none => tN q (zcap 6 q.2.2.2.1 ++ [(a, n, 3, q.1.2.1, false, 0)])
  | some x => if x.2.2.1 = 1 ∨ ¬ x.2.1 = n then tU (tN q (zset1 (fun e => decide (e.1 = a)) (lnX q.1.2.1 n) q.2.2.2.1)) (swU q.2.1 x) else q
theorem zcap_no {α : Type} {p : α → Bool} {n : Nat} {l : List α} (h : l.find? p = none) : ∀ y ∈ zcap n l, p y = false := by
  intro y hy
  have h1 : y ∈ l := by
    unfold zcap at hy
    by_cases hn : n ≤ l.length
    · rw [if_pos hn] at hy
      exact List.mem_of_mem_eraseIdx hy
    · rw [if_neg hn] at hy
      exact hy
  have := List.find?_eq_none.mp h y h1
  simpa using this
def ndR (x : zND) (b : Bool) : zND := (x.1, x.2.1, x.2.2.1, x.2.2.2.1, b, x.2.2.2.2.2)
def routeP (nb : List zND) (r : zTD) : Bool := match nb.find? (fun e => decide (e.1 = r.1)) with
  | some x => !decide (x.2.2.1 = 1)
  | none => false
def hopT (ro : List zTD) (nb : List zND) : Int32 := match ro.find? (routeP nb) with
  | some r => r.1
  | none => match ro with
    | [] => 0
    | r :: _ => r.1
def fbS (s : hSc) (b : Int32) : hSc := (s.1, s.2.1, s.2.2.1, s.2.2.2.1, s.2.2.2.2.1, b, s.2.2.2.2.2.2)
/-- a fault told, if it may be -/
def faultT (q : hT) (i f from' : Int32) (gr : Bool) : hT := if (gr = false ∨ f = 2) ∧ ¬ from' = 0 ∧ ¬ q.1.2.2.2.2.2.1 ≤ 0 then tU (tS q (fbS q.1 (q.1.2.2.2.2.2.1 - 1))) (ouAdd q.2.1 6 from' (16 * i + f)) else q
end ZHost5
theorem c_Ho_sendThrough {g : zG} {ws : va_W} {post : Option Value → va_W → Prop} {A : Nat → Nat} {q : hT} {R : va_W} (h : hH g A q R ws) {h n : Int32} (k : ∀ w, hH g A (sendT q h n).2 R w → post (some (.int (sendT q h n).1)) w) : zC g i_Ho_sendThrough [.ref (A 0), .int h, .int n] ws post := by
  refine zC.intro (by decide +kernel) rfl (Nat.le_of_ble_eq_true rfl) fun x0 hq => ?_
  obtain ⟨s, u, lo, ln, lr, lp, la, hd⟩ := q
  obtain ⟨ow, nb, ro, pf, pa, h1, h2, h3, h4, h5, rfl, rfl, rfl, rfl, rfl, h6, hs⟩ := h
  replace hs : zHas ws (hL g A s u ow nb ro pf pa hd R).flatten := hs
  have hfs := find_snd (fun e => decide (e.1 = h)) nb.2
  cases hf : nb.2.find? (fun e => decide (e.2.1 = h)) with
  | none =>
    rw [hf] at hfs
    refine zo_aload_n (i := i_Ho_sendThrough) (pc := 0) d_Ho_sendThrough_0 rfl rfl ?_
    refine zo_get (i := i_Ho_sendThrough) (pc := 1) 9 3 rfl zok_Ho (Nat.le_of_ble_eq_true rfl) (ztb_of k_265 rfl) d_Ho_sendThrough_1 (fun _ _ _ h => h) (hs.get (t := 0) rfl) rfl ?_
    refine zo_iload_n (i := i_Ho_sendThrough) (pc := 4) d_Ho_sendThrough_4 rfl ?_
    refine zc_VN1 (i := i_Ho_sendThrough) (pc := 5) 3 rfl m_Nr_find (ztb_of k_309 rfl) (ztb_of k_311 rfl) s_Nr_find d_Ho_sendThrough_5 (Nat.le_of_ble_eq_true rfl) (Nat.le_of_ble_eq_true rfl) (Nat.le_of_ble_eq_true rfl) (Nat.le_of_ble_eq_true rfl) ((hs.pick 3 rfl).get (t := 0) rfl) (c_Nr_find (hs.pick 3 rfl) h2.1 (Nat.le_trans h2.2 (by decide)) ?_)
    rw [hf]
    refine zo_astore_n (i := i_Ho_sendThrough) (pc := 8) d_Ho_sendThrough_8 rfl (Nat.le_of_ble_eq_true rfl) ?_
    refine zo_aload_n (i := i_Ho_sendThrough) (pc := 9) d_Ho_sendThrough_9 rfl rfl ?_
    refine zo_ifnonnull (i := i_Ho_sendThrough) (pc := 10) (tgt := 41) d_Ho_sendThrough_10 (by decide) rfl (fun h10 => False.elim (by first | exact absurd h10 ((by rintro ⟨_, q⟩; cases q)) | exact absurd ((by rintro ⟨_, q⟩; cases q)) h10)) (fun h10 => ?_)
    refine zh_new (i := i_Ho_sendThrough) (pc := 13) 2 rfl zok_Ne (ztb_of k_539 rfl) (ztb_of k_335 rfl) (ztb_of k_23 rfl) d_Ho_sendThrough_13 (fs := [.int 0, .int 0, .int 0, .int 0, .int 0, .int 0]) (by decide) (Nat.le_of_ble_eq_true rfl) (Nat.le_of_ble_eq_true rfl) hs fun a13 ws hs => ?_
    refine zo_dup (i := i_Ho_sendThrough) (pc := 16) d_Ho_sendThrough_16 rfl ?_
    refine zo_iload_n (i := i_Ho_sendThrough) (pc := 17) d_Ho_sendThrough_17 rfl ?_
    refine zo_iconst (i := i_Ho_sendThrough) (pc := 18) (v := 0) d_Ho_sendThrough_18 (by decide) ?_
    refine zo_iconst (i := i_Ho_sendThrough) (pc := 19) (v := 1) d_Ho_sendThrough_19 (by decide) ?_
    refine zo_aload_n (i := i_Ho_sendThrough) (pc := 20) d_Ho_sendThrough_20 rfl rfl ?_
    refine zo_get (i := i_Ho_sendThrough) (pc := 21) 9 8 rfl zok_Ho (Nat.le_of_ble_eq_true rfl) (ztb_of k_270 rfl) d_Ho_sendThrough_21 (fun _ _ _ h => h) (hs.get (t := 1) rfl) rfl ?_
    refine zc_IN4 (i := i_Ho_sendThrough) (pc := 24) m_Ne_init rfl rfl (ztb_of k_540 rfl) (ztb_of k_541 rfl) d_Ho_sendThrough_24 (Nat.le_of_ble_eq_true rfl) (Nat.le_of_ble_eq_true rfl) (Nat.le_of_ble_eq_true rfl) (Nat.le_of_ble_eq_true rfl) (c_Ne_init hs fun ws hs => ?_)
    refine zo_astore_n (i := i_Ho_sendThrough) (pc := 27) d_Ho_sendThrough_27 rfl (Nat.le_of_ble_eq_true rfl) ?_
    refine zo_aload_n (i := i_Ho_sendThrough) (pc := 28) d_Ho_sendThrough_28 rfl rfl ?_
    refine zo_get (i := i_Ho_sendThrough) (pc := 29) 9 3 rfl zok_Ho (Nat.le_of_ble_eq_true rfl) (ztb_of k_265 rfl) d_Ho_sendThrough_29 (fun _ _ _ h => h) (hs.get (t := 1) rfl) rfl ?_
    refine zo_aload_n (i := i_Ho_sendThrough) (pc := 32) d_Ho_sendThrough_32 rfl rfl ?_
    refine zc_VN1 (i := i_Ho_sendThrough) (pc := 33) 3 rfl m_Nr_add (ztb_of k_571 rfl) (ztb_of k_573 rfl) s_Nr_add d_Ho_sendThrough_33 (Nat.le_of_ble_eq_true rfl) (Nat.le_of_ble_eq_true rfl) (Nat.le_of_ble_eq_true rfl) (Nat.le_of_ble_eq_true rfl) ((hs.pickN 3 rfl).get (t := 0) rfl) (c_Nr_add (y := (h, 0, 1, s.2.1, false, 0)) (hs.pickN 3 rfl) h2.1 h2.2 fun d' m' ws hs => ?_)
    replace hs : zHas ws (hL g A s u ow ((some d', m'), zcap 6 nb.2 ++ [(a13, (h, 0, 1, s.2.1, false, 0))]) ro pf pa hd R).flatten := zHas.back (cs := hL g A s u ow nb ro pf pa hd R) 3 rfl hs
    refine zo_aload_n (i := i_Ho_sendThrough) (pc := 36) d_Ho_sendThrough_36 rfl rfl ?_
    refine zo_aload_n (i := i_Ho_sendThrough) (pc := 37) d_Ho_sendThrough_37 rfl rfl ?_
    refine zc_V1 (i := i_Ho_sendThrough) (pc := 38) 9 rfl m_Ho_ask (ztb_of k_481 rfl) (ztb_of k_483 rfl) s_Ho_ask d_Ho_sendThrough_38 (Nat.le_of_ble_eq_true rfl) (Nat.le_of_ble_eq_true rfl) (Nat.le_of_ble_eq_true rfl) (Nat.le_of_ble_eq_true rfl) (hs.get (t := 0) rfl) (c_Ho_ask (hv_nb hs (zlast _ _)) fun ws hs => ?_)
    refine zo_aload_n (i := i_Ho_sendThrough) (pc := 41) d_Ho_sendThrough_41 rfl rfl ?_
    refine zo_getN (i := i_Ho_sendThrough) (pc := 42) 2 2 rfl zok_Ne (Nat.le_of_ble_eq_true rfl) (ztb_of k_550 rfl) d_Ho_sendThrough_42 (fun _ _ _ h => h) (hs.get (t := 5) rfl) rfl ?_
    refine zo_iconst (i := i_Ho_sendThrough) (pc := 45) (v := 1) d_Ho_sendThrough_45 (by decide) ?_
    refine zo_icmp_ne (i := i_Ho_sendThrough) (pc := 46) (tgt := 56) d_Ho_sendThrough_46 (by decide) (fun h46 => False.elim (by first | exact absurd h46 (rfl) | exact absurd (rfl) h46)) (fun h46 => ?_)
    refine zo_aload_n (i := i_Ho_sendThrough) (pc := 49) d_Ho_sendThrough_49 rfl rfl ?_
    refine zo_iload_n (i := i_Ho_sendThrough) (pc := 50) d_Ho_sendThrough_50 rfl ?_
    refine zh_putN (i := i_Ho_sendThrough) (pc := 51) 2 5 rfl zok_Ne (Nat.le_of_ble_eq_true rfl) (ztb_of k_557 rfl) rfl d_Ho_sendThrough_51 (fun _ _ _ h => h) (t_Ne_ok 5 (Nat.le_of_ble_eq_true rfl)) rfl rfl hs 5 rfl (Nat.le_of_ble_eq_true rfl) fun ws hs => ?_
    refine zo_iconst (i := i_Ho_sendThrough) (pc := 54) (v := 1) d_Ho_sendThrough_54 (by decide) ?_
    refine zo_ireturn (i := i_Ho_sendThrough) (pc := 55) hq d_Ho_sendThrough_55 rfl (Nat.le_of_ble_eq_true rfl) (Nat.le_of_ble_eq_true rfl) ?_
    unfold sendT at k
    rw [hfs] at k
    replace hs := hu_nb (nb := ((some d', m'), zcap 6 nb.2 ++ [(a13, (h, 0, 1, s.2.1, false, 0))])) (y := (h, 0, 1, s.2.1, false, n)) (zlast _ _) hs
    replace hs := hs.eq (congrArg (fun l => (hL g A s (ouAdd u 2 65535 h) ow ((some d', m'), l) ro pf pa hd R).flatten) set_last)
    exact k ws ⟨_, _, _, _, _, h1, (hok_add (x := (nb.1, zcap 6 nb.2)) (zcap_len (by decide) h2.2)), h3, h4, h5, rfl, (by rw [List.map_append, zcap_snd]; rfl), rfl, rfl, rfl, h6, hs⟩
  | some e =>
    rw [hf] at hfs
    obtain ⟨j, hj, hpj, hno⟩ := zfind_idx hf
    have hkey : e.2.1 = h := of_decide_eq_true hpj
    have hse := rw_el (hs.pick 3 rfl) hj
    refine zo_aload_n (i := i_Ho_sendThrough) (pc := 0) d_Ho_sendThrough_0 rfl rfl ?_
    refine zo_get (i := i_Ho_sendThrough) (pc := 1) 9 3 rfl zok_Ho (Nat.le_of_ble_eq_true rfl) (ztb_of k_265 rfl) d_Ho_sendThrough_1 (fun _ _ _ h => h) (hs.get (t := 0) rfl) rfl ?_
    refine zo_iload_n (i := i_Ho_sendThrough) (pc := 4) d_Ho_sendThrough_4 rfl ?_
    refine zc_VN1 (i := i_Ho_sendThrough) (pc := 5) 3 rfl m_Nr_find (ztb_of k_309 rfl) (ztb_of k_311 rfl) s_Nr_find d_Ho_sendThrough_5 (Nat.le_of_ble_eq_true rfl) (Nat.le_of_ble_eq_true rfl) (Nat.le_of_ble_eq_true rfl) (Nat.le_of_ble_eq_true rfl) ((hs.pick 3 rfl).get (t := 0) rfl) (c_Nr_find (hs.pick 3 rfl) h2.1 (Nat.le_trans h2.2 (by decide)) ?_)
    rw [hf]
    refine zo_astore_n (i := i_Ho_sendThrough) (pc := 8) d_Ho_sendThrough_8 rfl (Nat.le_of_ble_eq_true rfl) ?_
    refine zo_aload_n (i := i_Ho_sendThrough) (pc := 9) d_Ho_sendThrough_9 rfl rfl ?_
    refine zo_ifnonnull (i := i_Ho_sendThrough) (pc := 10) (tgt := 41) d_Ho_sendThrough_10 (by decide) rfl (fun h10 => ?_) (fun h10 => False.elim (by first | exact absurd h10 ((by intro q; cases q)) | exact absurd ((by intro q; cases q)) h10))
    replace hs := hv_nb hs hj
    refine zo_aload_n (i := i_Ho_sendThrough) (pc := 41) d_Ho_sendThrough_41 rfl rfl ?_
    refine zo_getN (i := i_Ho_sendThrough) (pc := 42) 2 2 rfl zok_Ne (Nat.le_of_ble_eq_true rfl) (ztb_of k_550 rfl) d_Ho_sendThrough_42 (fun _ _ _ h => h) (hs.get (t := 5) rfl) rfl ?_
    refine zo_iconst (i := i_Ho_sendThrough) (pc := 45) (v := 1) d_Ho_sendThrough_45 (by decide) ?_
    refine zo_icmp_ne (i := i_Ho_sendThrough) (pc := 46) (tgt := 56) d_Ho_sendThrough_46 (by decide) (fun h46 => ?_) (fun h46 => ?_)
    · refine zo_aload_n (i := i_Ho_sendThrough) (pc := 56) d_Ho_sendThrough_56 rfl rfl ?_
      refine zo_aload_n (i := i_Ho_sendThrough) (pc := 57) d_Ho_sendThrough_57 rfl rfl ?_
      refine zo_iload_n (i := i_Ho_sendThrough) (pc := 58) d_Ho_sendThrough_58 rfl ?_
      refine zc_V2 (i := i_Ho_sendThrough) (pc := 59) 9 rfl m_Ho_deliver (ztb_of k_580 rfl) (ztb_of k_582 rfl) s_Ho_deliver d_Ho_sendThrough_59 (Nat.le_of_ble_eq_true rfl) (Nat.le_of_ble_eq_true rfl) (Nat.le_of_ble_eq_true rfl) (Nat.le_of_ble_eq_true rfl) (hs.get (t := 0) rfl) (c_Ho_deliver hs fun ws hs => ?_)
      refine zo_iconst (i := i_Ho_sendThrough) (pc := 62) (v := 0) d_Ho_sendThrough_62 (by decide) ?_
      refine zo_ireturn (i := i_Ho_sendThrough) (pc := 63) hq d_Ho_sendThrough_63 rfl (Nat.le_of_ble_eq_true rfl) (Nat.le_of_ble_eq_true rfl) ?_
      unfold sendT at k
      rw [hfs] at k
      replace k : ∀ w, hH g A (if e.2.2.2.1 = 1 then ((1 : Int32), tN (s, u, ow.2.map Prod.snd, nb.2.map Prod.snd, ro.2.map Prod.snd, pf.2.map Prod.snd, pa.2.map Prod.snd, hd) (zset1 (fun e => decide (e.1 = h)) (fun x => ndW x n) (nb.2.map Prod.snd))) else (0, tU (tN (s, u, ow.2.map Prod.snd, nb.2.map Prod.snd, ro.2.map Prod.snd, pf.2.map Prod.snd, pa.2.map Prod.snd, hd) (zset1 (fun e => decide (e.1 = h)) (ndD s.2.1) (nb.2.map Prod.snd))) (ouAdd u 4 e.2.1 n))).2 R w → post (some (.int (if e.2.2.2.1 = 1 then ((1 : Int32), tN (s, u, ow.2.map Prod.snd, nb.2.map Prod.snd, ro.2.map Prod.snd, pf.2.map Prod.snd, pa.2.map Prod.snd, hd) (zset1 (fun e => decide (e.1 = h)) (fun x => ndW x n) (nb.2.map Prod.snd))) else (0, tU (tN (s, u, ow.2.map Prod.snd, nb.2.map Prod.snd, ro.2.map Prod.snd, pf.2.map Prod.snd, pa.2.map Prod.snd, hd) (zset1 (fun e => decide (e.1 = h)) (ndD s.2.1) (nb.2.map Prod.snd))) (ouAdd u 4 e.2.1 n))).1)) w := k
      rw [if_neg h46] at k
      replace hs := hu_nb hj hs
      exact k ws ⟨_, _, _, _, _, h1, (hok_set h2), h3, h4, h5, rfl, (set_snd (p := fun e => decide (e.1 = h)) (f := ndD s.2.1) hno hj hpj), rfl, rfl, rfl, h6, hs⟩
    · refine zo_aload_n (i := i_Ho_sendThrough) (pc := 49) d_Ho_sendThrough_49 rfl rfl ?_
      refine zo_iload_n (i := i_Ho_sendThrough) (pc := 50) d_Ho_sendThrough_50 rfl ?_
      refine zh_putN (i := i_Ho_sendThrough) (pc := 51) 2 5 rfl zok_Ne (Nat.le_of_ble_eq_true rfl) (ztb_of k_557 rfl) rfl d_Ho_sendThrough_51 (fun _ _ _ h => h) (t_Ne_ok 5 (Nat.le_of_ble_eq_true rfl)) rfl rfl hs 5 rfl (Nat.le_of_ble_eq_true rfl) fun ws hs => ?_
      refine zo_iconst (i := i_Ho_sendThrough) (pc := 54) (v := 1) d_Ho_sendThrough_54 (by decide) ?_
      refine zo_ireturn (i := i_Ho_sendThrough) (pc := 55) hq d_Ho_sendThrough_55 rfl (Nat.le_of_ble_eq_true rfl) (Nat.le_of_ble_eq_true rfl) ?_
      unfold sendT at k
      rw [hfs] at k
      replace k : ∀ w, hH g A (if e.2.2.2.1 = 1 then ((1 : Int32), tN (s, u, ow.2.map Prod.snd, nb.2.map Prod.snd, ro.2.map Prod.snd, pf.2.map Prod.snd, pa.2.map Prod.snd, hd) (zset1 (fun e => decide (e.1 = h)) (fun x => ndW x n) (nb.2.map Prod.snd))) else (0, tU (tN (s, u, ow.2.map Prod.snd, nb.2.map Prod.snd, ro.2.map Prod.snd, pf.2.map Prod.snd, pa.2.map Prod.snd, hd) (zset1 (fun e => decide (e.1 = h)) (ndD s.2.1) (nb.2.map Prod.snd))) (ouAdd u 4 e.2.1 n))).2 R w → post (some (.int (if e.2.2.2.1 = 1 then ((1 : Int32), tN (s, u, ow.2.map Prod.snd, nb.2.map Prod.snd, ro.2.map Prod.snd, pf.2.map Prod.snd, pa.2.map Prod.snd, hd) (zset1 (fun e => decide (e.1 = h)) (fun x => ndW x n) (nb.2.map Prod.snd))) else (0, tU (tN (s, u, ow.2.map Prod.snd, nb.2.map Prod.snd, ro.2.map Prod.snd, pf.2.map Prod.snd, pa.2.map Prod.snd, hd) (zset1 (fun e => decide (e.1 = h)) (ndD s.2.1) (nb.2.map Prod.snd))) (ouAdd u 4 e.2.1 n))).1)) w := k
      rw [if_pos h46] at k
      replace hs := hu_nb (y := ndW e.2 n) hj hs
      exact k ws ⟨_, _, _, _, _, h1, (hok_set h2), h3, h4, h5, rfl, (set_snd (p := fun e => decide (e.1 = h)) (f := fun x => ndW x n) hno hj hpj), rfl, rfl, rfl, h6, hs⟩
theorem c_Ho_learnNumber {g : zG} {ws : va_W} {post : Option Value → va_W → Prop} {A : Nat → Nat} {q : hT} {R : va_W} (h : hH g A q R ws) {a n : Int32} (k : ∀ (ow : hLi zOD) (nb' : hLi zND) (ro pf pa : hLi zTD) (b j : Nat) (x : zND) (w : va_W), hok 5 ow → hok 6 nb' → hok 3 ro → hok 4 pf → hok 4 pa → ow.2.map Prod.snd = q.2.2.1 → nb'.2.map Prod.snd = (lnT q a n).2.2.2.1 → ro.2.map Prod.snd = q.2.2.2.2.1 → pf.2.map Prod.snd = q.2.2.2.2.2.1 → pa.2.map Prod.snd = q.2.2.2.2.2.2.1 → nb'.2[j]? = some (b, x) → x.1 = a → (∀ y ∈ nb'.2.take j, decide (y.2.1 = a) = false) → zHas w (hL g A q.1 (lnT q a n).2.1 ow nb' ro pf pa q.2.2.2.2.2.2.2 R).flatten → post (some (.ref b)) w) : zC g i_Ho_learnNumber [.ref (A 0), .int a, .int n] ws post := by
  refine zC.intro (by decide +kernel) rfl (Nat.le_of_ble_eq_true rfl) fun x0 hq => ?_
  obtain ⟨s, u, lo, ln, lr, lp, la, hd⟩ := q
  obtain ⟨ow, nb, ro, pf, pa, h1, h2, h3, h4, h5, rfl, rfl, rfl, rfl, rfl, h6, hs⟩ := h
  replace hs : zHas ws (hL g A s u ow nb ro pf pa hd R).flatten := hs
  have hfs := find_snd (fun e => decide (e.1 = a)) nb.2
  cases hf : nb.2.find? (fun e => decide (e.2.1 = a)) with
  | none =>
    rw [hf] at hfs
    refine zo_aload_n (i := i_Ho_learnNumber) (pc := 0) d_Ho_learnNumber_0 rfl rfl ?_
    refine zo_get (i := i_Ho_learnNumber) (pc := 1) 9 3 rfl zok_Ho (Nat.le_of_ble_eq_true rfl) (ztb_of k_265 rfl) d_Ho_learnNumber_1 (fun _ _ _ h => h) (hs.get (t := 0) rfl) rfl ?_
    refine zo_iload_n (i := i_Ho_learnNumber) (pc := 4) d_Ho_learnNumber_4 rfl ?_
    refine zc_VN1 (i := i_Ho_learnNumber) (pc := 5) 3 rfl m_Nr_find (ztb_of k_309 rfl) (ztb_of k_311 rfl) s_Nr_find d_Ho_learnNumber_5 (Nat.le_of_ble_eq_true rfl) (Nat.le_of_ble_eq_true rfl) (Nat.le_of_ble_eq_true rfl) (Nat.le_of_ble_eq_true rfl) ((hs.pick 3 rfl).get (t := 0) rfl) (c_Nr_find (hs.pick 3 rfl) h2.1 (Nat.le_trans h2.2 (by decide)) ?_)
    rw [hf]
    refine zo_astore_n (i := i_Ho_learnNumber) (pc := 8) d_Ho_learnNumber_8 rfl (Nat.le_of_ble_eq_true rfl) ?_
    refine zo_aload_n (i := i_Ho_learnNumber) (pc := 9) d_Ho_learnNumber_9 rfl rfl ?_
    refine zo_ifnonnull (i := i_Ho_learnNumber) (pc := 10) (tgt := 41) d_Ho_learnNumber_10 (by decide) rfl (fun h10 => False.elim (by first | exact absurd h10 ((by rintro ⟨_, q⟩; cases q)) | exact absurd ((by rintro ⟨_, q⟩; cases q)) h10)) (fun h10 => ?_)
    refine zh_new (i := i_Ho_learnNumber) (pc := 13) 2 rfl zok_Ne (ztb_of k_539 rfl) (ztb_of k_335 rfl) (ztb_of k_23 rfl) d_Ho_learnNumber_13 (fs := [.int 0, .int 0, .int 0, .int 0, .int 0, .int 0]) (by decide) (Nat.le_of_ble_eq_true rfl) (Nat.le_of_ble_eq_true rfl) hs fun a13 ws hs => ?_
    refine zo_dup (i := i_Ho_learnNumber) (pc := 16) d_Ho_learnNumber_16 rfl ?_
    refine zo_iload_n (i := i_Ho_learnNumber) (pc := 17) d_Ho_learnNumber_17 rfl ?_
    refine zo_iload_n (i := i_Ho_learnNumber) (pc := 18) d_Ho_learnNumber_18 rfl ?_
    refine zo_iconst (i := i_Ho_learnNumber) (pc := 19) (v := 3) d_Ho_learnNumber_19 (by decide) ?_
    refine zo_aload_n (i := i_Ho_learnNumber) (pc := 20) d_Ho_learnNumber_20 rfl rfl ?_
    refine zo_get (i := i_Ho_learnNumber) (pc := 21) 9 8 rfl zok_Ho (Nat.le_of_ble_eq_true rfl) (ztb_of k_270 rfl) d_Ho_learnNumber_21 (fun _ _ _ h => h) (hs.get (t := 1) rfl) rfl ?_
    refine zc_IN4 (i := i_Ho_learnNumber) (pc := 24) m_Ne_init rfl rfl (ztb_of k_540 rfl) (ztb_of k_541 rfl) d_Ho_learnNumber_24 (Nat.le_of_ble_eq_true rfl) (Nat.le_of_ble_eq_true rfl) (Nat.le_of_ble_eq_true rfl) (Nat.le_of_ble_eq_true rfl) (c_Ne_init hs fun ws hs => ?_)
    refine zo_astore (i := i_Ho_learnNumber) (pc := 27) d_Ho_learnNumber_27 rfl (Nat.le_of_ble_eq_true rfl) ?_
    refine zo_aload_n (i := i_Ho_learnNumber) (pc := 29) d_Ho_learnNumber_29 rfl rfl ?_
    refine zo_get (i := i_Ho_learnNumber) (pc := 30) 9 3 rfl zok_Ho (Nat.le_of_ble_eq_true rfl) (ztb_of k_265 rfl) d_Ho_learnNumber_30 (fun _ _ _ h => h) (hs.get (t := 1) rfl) rfl ?_
    refine zo_aload (i := i_Ho_learnNumber) (pc := 33) d_Ho_learnNumber_33 rfl rfl ?_
    refine zc_VN1 (i := i_Ho_learnNumber) (pc := 35) 3 rfl m_Nr_add (ztb_of k_571 rfl) (ztb_of k_573 rfl) s_Nr_add d_Ho_learnNumber_35 (Nat.le_of_ble_eq_true rfl) (Nat.le_of_ble_eq_true rfl) (Nat.le_of_ble_eq_true rfl) (Nat.le_of_ble_eq_true rfl) ((hs.pickN 3 rfl).get (t := 0) rfl) (c_Nr_add (y := (a, n, 3, s.2.1, false, 0)) (hs.pickN 3 rfl) h2.1 h2.2 fun d' m' ws hs => ?_)
    replace hs : zHas ws (hL g A s u ow ((some d', m'), zcap 6 nb.2 ++ [(a13, (a, n, 3, s.2.1, false, 0))]) ro pf pa hd R).flatten := zHas.back (cs := hL g A s u ow nb ro pf pa hd R) 3 rfl hs
    refine zo_aload (i := i_Ho_learnNumber) (pc := 38) d_Ho_learnNumber_38 rfl rfl ?_
    refine zo_areturn (i := i_Ho_learnNumber) (pc := 40) hq d_Ho_learnNumber_40 rfl (.inl ⟨_, rfl⟩) (.inr ⟨_, rfl⟩) (Nat.le_of_ble_eq_true rfl) (Nat.le_of_ble_eq_true rfl) ?_
    have e0 : lnT (s, u, ow.2.map Prod.snd, nb.2.map Prod.snd, ro.2.map Prod.snd, pf.2.map Prod.snd, pa.2.map Prod.snd, hd) a n = tN (s, u, ow.2.map Prod.snd, nb.2.map Prod.snd, ro.2.map Prod.snd, pf.2.map Prod.snd, pa.2.map Prod.snd, hd) (zcap 6 (nb.2.map Prod.snd) ++ [(a, n, 3, s.2.1, false, 0)]) := by
      unfold lnT
      rw [hfs]
      rfl
    refine k ow ((some d', m'), zcap 6 nb.2 ++ [(a13, (a, n, 3, s.2.1, false, 0))]) ro pf pa a13 _ (a, n, 3, s.2.1, false, 0) ws h1 (hok_add (x := (nb.1, zcap 6 nb.2)) (zcap_len (by decide) h2.2)) h3 h4 h5 rfl (by rw [e0, List.map_append, zcap_snd]; rfl) rfl rfl rfl (zlast _ _) rfl (fun y hy => ?_) (by rw [e0]; exact hs)
    rw [List.take_left'] at hy
    · exact zcap_no hf y hy
    · rfl
  | some e =>
    rw [hf] at hfs
    obtain ⟨j, hj, hpj, hno⟩ := zfind_idx hf
    have hkey : e.2.1 = a := of_decide_eq_true hpj
    have hse := rw_el (hs.pick 3 rfl) hj
    refine zo_aload_n (i := i_Ho_learnNumber) (pc := 0) d_Ho_learnNumber_0 rfl rfl ?_
    refine zo_get (i := i_Ho_learnNumber) (pc := 1) 9 3 rfl zok_Ho (Nat.le_of_ble_eq_true rfl) (ztb_of k_265 rfl) d_Ho_learnNumber_1 (fun _ _ _ h => h) (hs.get (t := 0) rfl) rfl ?_
    refine zo_iload_n (i := i_Ho_learnNumber) (pc := 4) d_Ho_learnNumber_4 rfl ?_
    refine zc_VN1 (i := i_Ho_learnNumber) (pc := 5) 3 rfl m_Nr_find (ztb_of k_309 rfl) (ztb_of k_311 rfl) s_Nr_find d_Ho_learnNumber_5 (Nat.le_of_ble_eq_true rfl) (Nat.le_of_ble_eq_true rfl) (Nat.le_of_ble_eq_true rfl) (Nat.le_of_ble_eq_true rfl) ((hs.pick 3 rfl).get (t := 0) rfl) (c_Nr_find (hs.pick 3 rfl) h2.1 (Nat.le_trans h2.2 (by decide)) ?_)
    rw [hf]
    refine zo_astore_n (i := i_Ho_learnNumber) (pc := 8) d_Ho_learnNumber_8 rfl (Nat.le_of_ble_eq_true rfl) ?_
    refine zo_aload_n (i := i_Ho_learnNumber) (pc := 9) d_Ho_learnNumber_9 rfl rfl ?_
    refine zo_ifnonnull (i := i_Ho_learnNumber) (pc := 10) (tgt := 41) d_Ho_learnNumber_10 (by decide) rfl (fun h10 => ?_) (fun h10 => False.elim (by first | exact absurd h10 ((by intro q; cases q)) | exact absurd ((by intro q; cases q)) h10))
    replace hs := hv_nb hs hj
    refine zo_aload_n (i := i_Ho_learnNumber) (pc := 41) d_Ho_learnNumber_41 rfl rfl ?_
    refine zo_getN (i := i_Ho_learnNumber) (pc := 42) 2 2 rfl zok_Ne (Nat.le_of_ble_eq_true rfl) (ztb_of k_550 rfl) d_Ho_learnNumber_42 (fun _ _ _ h => h) (hs.get (t := 5) rfl) rfl ?_
    refine zo_iconst (i := i_Ho_learnNumber) (pc := 45) (v := 1) d_Ho_learnNumber_45 (by decide) ?_
    refine zo_icmp_eq (i := i_Ho_learnNumber) (pc := 46) (tgt := 57) d_Ho_learnNumber_46 (by decide) (fun h46 => ?_) (fun h46 => ?_)
    · refine zo_aload_n (i := i_Ho_learnNumber) (pc := 57) d_Ho_learnNumber_57 rfl rfl ?_
      refine zo_iload_n (i := i_Ho_learnNumber) (pc := 58) d_Ho_learnNumber_58 rfl ?_
      refine zh_putN (i := i_Ho_learnNumber) (pc := 59) 2 1 rfl zok_Ne (Nat.le_of_ble_eq_true rfl) (ztb_of k_548 rfl) rfl d_Ho_learnNumber_59 (fun _ _ _ h => h) (t_Ne_ok 1 (Nat.le_of_ble_eq_true rfl)) rfl rfl hs 5 rfl (Nat.le_of_ble_eq_true rfl) fun ws hs => ?_
      replace hs : zHas ws (hoC A s :: (ouN g A u ++ ((e.1, .inr (2, ndV (e.2.1, n, e.2.2.2))) :: rwX g 3 2 ndV (A 7) (A 8) nb.1.1 nb.1.2 [] nb.2 j (owW g A ow ++ (roW g A ro ++ (pfW g A pf ++ (paW g A pa ++ (heW g A hd ++ (R ++ []))))))))) := hs
      refine zo_aload_n (i := i_Ho_learnNumber) (pc := 62) d_Ho_learnNumber_62 rfl rfl ?_
      refine zo_iconst (i := i_Ho_learnNumber) (pc := 63) (v := 3) d_Ho_learnNumber_63 (by decide) ?_
      refine zo_aload_n (i := i_Ho_learnNumber) (pc := 64) d_Ho_learnNumber_64 rfl rfl ?_
      refine zo_get (i := i_Ho_learnNumber) (pc := 65) 9 8 rfl zok_Ho (Nat.le_of_ble_eq_true rfl) (ztb_of k_270 rfl) d_Ho_learnNumber_65 (fun _ _ _ h => h) (hs.get (t := 0) rfl) rfl ?_
      refine zc_VN2 (i := i_Ho_learnNumber) (pc := 68) 2 rfl m_Ne_enter (ztb_of k_485 rfl) (ztb_of k_487 rfl) s_Ne_enter d_Ho_learnNumber_68 (Nat.le_of_ble_eq_true rfl) (Nat.le_of_ble_eq_true rfl) (Nat.le_of_ble_eq_true rfl) (Nat.le_of_ble_eq_true rfl) (hs.get (t := 5) rfl) (c_Ne_enter hs.f2 fun ws hs => ?_)
      replace hs := hs.f2'
      refine zo_aload_n (i := i_Ho_learnNumber) (pc := 71) d_Ho_learnNumber_71 rfl rfl ?_
      refine zo_aload_n (i := i_Ho_learnNumber) (pc := 72) d_Ho_learnNumber_72 rfl rfl ?_
      refine zc_V1 (i := i_Ho_learnNumber) (pc := 73) 9 rfl m_Ho_sendWaiting (ztb_of k_576 rfl) (ztb_of k_578 rfl) s_Ho_sendWaiting d_Ho_learnNumber_73 (Nat.le_of_ble_eq_true rfl) (Nat.le_of_ble_eq_true rfl) (Nat.le_of_ble_eq_true rfl) (Nat.le_of_ble_eq_true rfl) (hs.get (t := 0) rfl) (c_Ho_sendWaiting hs fun ws hs => ?_)
      refine zo_aload_n (i := i_Ho_learnNumber) (pc := 76) d_Ho_learnNumber_76 rfl rfl ?_
      refine zo_areturn (i := i_Ho_learnNumber) (pc := 77) hq d_Ho_learnNumber_77 rfl (.inl ⟨_, rfl⟩) (.inr ⟨_, rfl⟩) (Nat.le_of_ble_eq_true rfl) (Nat.le_of_ble_eq_true rfl) ?_
      have e0 : lnT (s, u, ow.2.map Prod.snd, nb.2.map Prod.snd, ro.2.map Prod.snd, pf.2.map Prod.snd, pa.2.map Prod.snd, hd) a n = (if e.2.2.2.1 = 1 ∨ ¬ e.2.2.1 = n then tU (tN (s, u, ow.2.map Prod.snd, nb.2.map Prod.snd, ro.2.map Prod.snd, pf.2.map Prod.snd, pa.2.map Prod.snd, hd) (zset1 (fun e => decide (e.1 = a)) (lnX s.2.1 n) (nb.2.map Prod.snd))) (swU u e.2) else (s, u, ow.2.map Prod.snd, nb.2.map Prod.snd, ro.2.map Prod.snd, pf.2.map Prod.snd, pa.2.map Prod.snd, hd)) := by
        unfold lnT
        rw [hfs]
        rfl
      rw [if_pos (.inl h46)] at e0
      refine k ow (nb.1, nb.2.set j (e.1, lnX s.2.1 n e.2)) ro pf pa e.1 j (lnX s.2.1 n e.2) ws h1 (hok_set h2) h3 h4 h5 rfl (by rw [e0]; exact set_snd (p := fun e => decide (e.1 = a)) (f := lnX s.2.1 n) hno hj hpj) rfl rfl rfl ?_ ?_ ?_ ?_
      · show (nb.2.set j (e.1, lnX s.2.1 n e.2))[j]? = _
        rw [List.getElem?_set, if_pos rfl, if_pos (List.getElem?_eq_some_iff.mp hj).1]
      · rw [← hkey]
        unfold lnX swX
        by_cases hw : e.2.2.2.2.2.2 = 0
        · rw [if_pos hw]
        · rw [if_neg hw]
          rfl
      · intro y hy
        rw [show (nb.1, nb.2.set j (e.1, lnX s.2.1 n e.2)).2.take j = nb.2.take j from List.take_set_of_le (Nat.le_refl j)] at hy
        exact hno y hy
      · rw [e0]
        exact hu_nb hj hs
    · refine zo_aload_n (i := i_Ho_learnNumber) (pc := 49) d_Ho_learnNumber_49 rfl rfl ?_
      refine zo_getN (i := i_Ho_learnNumber) (pc := 50) 2 1 rfl zok_Ne (Nat.le_of_ble_eq_true rfl) (ztb_of k_548 rfl) d_Ho_learnNumber_50 (fun _ _ _ h => h) (hs.get (t := 5) rfl) rfl ?_
      refine zo_iload_n (i := i_Ho_learnNumber) (pc := 53) d_Ho_learnNumber_53 rfl ?_
      refine zo_icmp_eq (i := i_Ho_learnNumber) (pc := 54) (tgt := 76) d_Ho_learnNumber_54 (by decide) (fun h54 => ?_) (fun h54 => ?_)
      · refine zo_aload_n (i := i_Ho_learnNumber) (pc := 76) d_Ho_learnNumber_76 rfl rfl ?_
        refine zo_areturn (i := i_Ho_learnNumber) (pc := 77) hq d_Ho_learnNumber_77 rfl (.inl ⟨_, rfl⟩) (.inr ⟨_, rfl⟩) (Nat.le_of_ble_eq_true rfl) (Nat.le_of_ble_eq_true rfl) ?_
        have e0 : lnT (s, u, ow.2.map Prod.snd, nb.2.map Prod.snd, ro.2.map Prod.snd, pf.2.map Prod.snd, pa.2.map Prod.snd, hd) a n = (if e.2.2.2.1 = 1 ∨ ¬ e.2.2.1 = n then tU (tN (s, u, ow.2.map Prod.snd, nb.2.map Prod.snd, ro.2.map Prod.snd, pf.2.map Prod.snd, pa.2.map Prod.snd, hd) (zset1 (fun e => decide (e.1 = a)) (lnX s.2.1 n) (nb.2.map Prod.snd))) (swU u e.2) else (s, u, ow.2.map Prod.snd, nb.2.map Prod.snd, ro.2.map Prod.snd, pf.2.map Prod.snd, pa.2.map Prod.snd, hd)) := by
          unfold lnT
          rw [hfs]
          rfl
        rw [if_neg (fun q => q.elim h46 (fun q => q h54))] at e0
        refine k ow nb ro pf pa e.1 j e.2 ws h1 h2 h3 h4 h5 rfl (by rw [e0]) rfl rfl rfl hj hkey hno ?_
        rw [e0]
        replace hs := hu_nb hj hs
        exact hs.eq (congrArg (fun l => (hL g A s u ow (nb.1, l) ro pf pa hd R).flatten) (zset_self hj))
      · refine zo_aload_n (i := i_Ho_learnNumber) (pc := 57) d_Ho_learnNumber_57 rfl rfl ?_
        refine zo_iload_n (i := i_Ho_learnNumber) (pc := 58) d_Ho_learnNumber_58 rfl ?_
        refine zh_putN (i := i_Ho_learnNumber) (pc := 59) 2 1 rfl zok_Ne (Nat.le_of_ble_eq_true rfl) (ztb_of k_548 rfl) rfl d_Ho_learnNumber_59 (fun _ _ _ h => h) (t_Ne_ok 1 (Nat.le_of_ble_eq_true rfl)) rfl rfl hs 5 rfl (Nat.le_of_ble_eq_true rfl) fun ws hs => ?_
        replace hs : zHas ws (hoC A s :: (ouN g A u ++ ((e.1, .inr (2, ndV (e.2.1, n, e.2.2.2))) :: rwX g 3 2 ndV (A 7) (A 8) nb.1.1 nb.1.2 [] nb.2 j (owW g A ow ++ (roW g A ro ++ (pfW g A pf ++ (paW g A pa ++ (heW g A hd ++ (R ++ []))))))))) := hs
        refine zo_aload_n (i := i_Ho_learnNumber) (pc := 62) d_Ho_learnNumber_62 rfl rfl ?_
        refine zo_iconst (i := i_Ho_learnNumber) (pc := 63) (v := 3) d_Ho_learnNumber_63 (by decide) ?_
        refine zo_aload_n (i := i_Ho_learnNumber) (pc := 64) d_Ho_learnNumber_64 rfl rfl ?_
        refine zo_get (i := i_Ho_learnNumber) (pc := 65) 9 8 rfl zok_Ho (Nat.le_of_ble_eq_true rfl) (ztb_of k_270 rfl) d_Ho_learnNumber_65 (fun _ _ _ h => h) (hs.get (t := 0) rfl) rfl ?_
        refine zc_VN2 (i := i_Ho_learnNumber) (pc := 68) 2 rfl m_Ne_enter (ztb_of k_485 rfl) (ztb_of k_487 rfl) s_Ne_enter d_Ho_learnNumber_68 (Nat.le_of_ble_eq_true rfl) (Nat.le_of_ble_eq_true rfl) (Nat.le_of_ble_eq_true rfl) (Nat.le_of_ble_eq_true rfl) (hs.get (t := 5) rfl) (c_Ne_enter hs.f2 fun ws hs => ?_)
        replace hs := hs.f2'
        refine zo_aload_n (i := i_Ho_learnNumber) (pc := 71) d_Ho_learnNumber_71 rfl rfl ?_
        refine zo_aload_n (i := i_Ho_learnNumber) (pc := 72) d_Ho_learnNumber_72 rfl rfl ?_
        refine zc_V1 (i := i_Ho_learnNumber) (pc := 73) 9 rfl m_Ho_sendWaiting (ztb_of k_576 rfl) (ztb_of k_578 rfl) s_Ho_sendWaiting d_Ho_learnNumber_73 (Nat.le_of_ble_eq_true rfl) (Nat.le_of_ble_eq_true rfl) (Nat.le_of_ble_eq_true rfl) (Nat.le_of_ble_eq_true rfl) (hs.get (t := 0) rfl) (c_Ho_sendWaiting hs fun ws hs => ?_)
        refine zo_aload_n (i := i_Ho_learnNumber) (pc := 76) d_Ho_learnNumber_76 rfl rfl ?_
        refine zo_areturn (i := i_Ho_learnNumber) (pc := 77) hq d_Ho_learnNumber_77 rfl (.inl ⟨_, rfl⟩) (.inr ⟨_, rfl⟩) (Nat.le_of_ble_eq_true rfl) (Nat.le_of_ble_eq_true rfl) ?_
        have e0 : lnT (s, u, ow.2.map Prod.snd, nb.2.map Prod.snd, ro.2.map Prod.snd, pf.2.map Prod.snd, pa.2.map Prod.snd, hd) a n = (if e.2.2.2.1 = 1 ∨ ¬ e.2.2.1 = n then tU (tN (s, u, ow.2.map Prod.snd, nb.2.map Prod.snd, ro.2.map Prod.snd, pf.2.map Prod.snd, pa.2.map Prod.snd, hd) (zset1 (fun e => decide (e.1 = a)) (lnX s.2.1 n) (nb.2.map Prod.snd))) (swU u e.2) else (s, u, ow.2.map Prod.snd, nb.2.map Prod.snd, ro.2.map Prod.snd, pf.2.map Prod.snd, pa.2.map Prod.snd, hd)) := by
          unfold lnT
          rw [hfs]
          rfl
        rw [if_pos (.inr h54)] at e0
        refine k ow (nb.1, nb.2.set j (e.1, lnX s.2.1 n e.2)) ro pf pa e.1 j (lnX s.2.1 n e.2) ws h1 (hok_set h2) h3 h4 h5 rfl (by rw [e0]; exact set_snd (p := fun e => decide (e.1 = a)) (f := lnX s.2.1 n) hno hj hpj) rfl rfl rfl ?_ ?_ ?_ ?_
        · show (nb.2.set j (e.1, lnX s.2.1 n e.2))[j]? = _
          rw [List.getElem?_set, if_pos rfl, if_pos (List.getElem?_eq_some_iff.mp hj).1]
        · rw [← hkey]
          unfold lnX swX
          by_cases hw : e.2.2.2.2.2.2 = 0
          · rw [if_pos hw]
          · rw [if_neg hw]
            rfl
        · intro y hy
          rw [show (nb.1, nb.2.set j (e.1, lnX s.2.1 n e.2)).2.take j = nb.2.take j from List.take_set_of_le (Nat.le_refl j)] at hy
          exact hno y hy
        · rw [e0]
          exact hu_nb hj hs
theorem c_Ho_answerFault {g : zG} {ws : va_W} {post : Option Value → va_W → Prop} {A : Nat → Nat} {q : hT} {R : va_W} (h : hH g A q R ws) {i f fr : Int32} {gr : Bool} (k : ∀ w, hH g A (faultT q i f fr gr) R w → post none w) : zC g i_Ho_answerFault [.ref (A 0), .int i, .int f, .int fr, .int (zb gr)] ws post := by
  refine zC.intro (by decide +kernel) rfl (Nat.le_of_ble_eq_true rfl) fun x0 hq => ?_
  obtain ⟨s, u, lo, ln, lr, lp, la, hd⟩ := q
  obtain ⟨ow, nb, ro, pf, pa, h1, h2, h3, h4, h5, rfl, rfl, rfl, rfl, rfl, h6, hs⟩ := h
  replace hs : zHas ws (hL g A s u ow nb ro pf pa hd R).flatten := hs
  refine zo_iload (i := i_Ho_answerFault) (pc := 0) d_Ho_answerFault_0 rfl ?_
  refine zo_if_eq (i := i_Ho_answerFault) (pc := 2) (tgt := 10) d_Ho_answerFault_2 (by decide) (fun hG => ?_) (fun hG => ?_)
  · refine zo_iconst (i := i_Ho_answerFault) (pc := 10) (v := 1) d_Ho_answerFault_10 (by decide) ?_
    refine zo_goto (i := i_Ho_answerFault) (pc := 11) (tgt := 15) d_Ho_answerFault_11 (by decide) ?_
    refine zo_istore (i := i_Ho_answerFault) (pc := 15) d_Ho_answerFault_15 (Nat.le_of_ble_eq_true rfl) ?_
    refine zo_iload (i := i_Ho_answerFault) (pc := 17) d_Ho_answerFault_17 rfl ?_
    refine zo_if_eq (i := i_Ho_answerFault) (pc := 19) (tgt := 59) d_Ho_answerFault_19 (by decide) (fun h19 => False.elim (by first | exact absurd h19 (by decide) | exact absurd (by decide) h19)) (fun h19 => ?_)
    refine zo_iload_n (i := i_Ho_answerFault) (pc := 22) d_Ho_answerFault_22 rfl ?_
    refine zo_if_eq (i := i_Ho_answerFault) (pc := 23) (tgt := 59) d_Ho_answerFault_23 (by decide) (fun h23 => ?_) (fun h23 => ?_)
    · refine zo_return (i := i_Ho_answerFault) (pc := 59) hq d_Ho_answerFault_59 rfl (Nat.le_of_ble_eq_true rfl) (Nat.le_of_ble_eq_true rfl) ?_
      unfold faultT at k
      rw [if_neg (fun q => q.2.1 h23)] at k
      exact k ws ⟨_, _, _, _, _, h1, h2, h3, h4, h5, rfl, rfl, rfl, rfl, rfl, h6, hs⟩
    · refine zo_aload_n (i := i_Ho_answerFault) (pc := 26) d_Ho_answerFault_26 rfl rfl ?_
      refine zo_get (i := i_Ho_answerFault) (pc := 27) 9 12 rfl zok_Ho (Nat.le_of_ble_eq_true rfl) (ztb_of k_274 rfl) d_Ho_answerFault_27 (fun _ _ _ h => h) (hs.get (t := 0) rfl) rfl ?_
      refine zo_if_le (i := i_Ho_answerFault) (pc := 30) (tgt := 59) d_Ho_answerFault_30 (by decide) (fun h30 => ?_) (fun h30 => ?_)
      · refine zo_return (i := i_Ho_answerFault) (pc := 59) hq d_Ho_answerFault_59 rfl (Nat.le_of_ble_eq_true rfl) (Nat.le_of_ble_eq_true rfl) ?_
        unfold faultT at k
        rw [if_neg (fun q => q.2.2 h30)] at k
        exact k ws ⟨_, _, _, _, _, h1, h2, h3, h4, h5, rfl, rfl, rfl, rfl, rfl, h6, hs⟩
      · refine zo_aload_n (i := i_Ho_answerFault) (pc := 33) d_Ho_answerFault_33 rfl rfl ?_
        refine zo_dup (i := i_Ho_answerFault) (pc := 34) d_Ho_answerFault_34 rfl ?_
        refine zo_get (i := i_Ho_answerFault) (pc := 35) 9 12 rfl zok_Ho (Nat.le_of_ble_eq_true rfl) (ztb_of k_274 rfl) d_Ho_answerFault_35 (fun _ _ _ h => h) (hs.get (t := 0) rfl) rfl ?_
        refine zo_iconst (i := i_Ho_answerFault) (pc := 38) (v := 1) d_Ho_answerFault_38 (by decide) ?_
        refine zo_isub (i := i_Ho_answerFault) (pc := 39) d_Ho_answerFault_39 ?_
        refine zh_put (i := i_Ho_answerFault) (pc := 40) 9 12 rfl zok_Ho (Nat.le_of_ble_eq_true rfl) (ztb_of k_274 rfl) rfl d_Ho_answerFault_40 (fun _ _ _ h => h) (t_Ho_ok 12 (Nat.le_of_ble_eq_true rfl)) rfl rfl hs 0 rfl (Nat.le_of_ble_eq_true rfl) fun ws hs => ?_
        replace hs : zHas ws (hL g A (fbS s (s.2.2.2.2.2.1 - 1)) u ow nb ro pf pa hd R).flatten := hs
        refine zo_aload_n (i := i_Ho_answerFault) (pc := 43) d_Ho_answerFault_43 rfl rfl ?_
        refine zo_get (i := i_Ho_answerFault) (pc := 44) 9 1 rfl zok_Ho (Nat.le_of_ble_eq_true rfl) (ztb_of k_263 rfl) d_Ho_answerFault_44 (fun _ _ _ h => h) (hs.get (t := 0) rfl) rfl ?_
        refine zo_bipush (i := i_Ho_answerFault) (pc := 47) (v := 6) d_Ho_answerFault_47 (by decide) ?_
        refine zo_iload_n (i := i_Ho_answerFault) (pc := 49) d_Ho_answerFault_49 rfl ?_
        refine zo_bipush (i := i_Ho_answerFault) (pc := 50) (v := 16) d_Ho_answerFault_50 (by decide) ?_
        refine zo_iload_n (i := i_Ho_answerFault) (pc := 52) d_Ho_answerFault_52 rfl ?_
        refine zo_imul (i := i_Ho_answerFault) (pc := 53) d_Ho_answerFault_53 ?_
        refine zo_iload_n (i := i_Ho_answerFault) (pc := 54) d_Ho_answerFault_54 rfl ?_
        refine zo_iadd (i := i_Ho_answerFault) (pc := 55) d_Ho_answerFault_55 ?_
        refine zc_VN3 (i := i_Ho_answerFault) (pc := 56) 4 rfl m_Ou_add (ztb_of k_257 rfl) (ztb_of k_259 rfl) s_Ou_add d_Ho_answerFault_56 (Nat.le_of_ble_eq_true rfl) (Nat.le_of_ble_eq_true rfl) (Nat.le_of_ble_eq_true rfl) (Nat.le_of_ble_eq_true rfl) ((hs.pick 1 rfl).get (t := 0) rfl) (c_ou_add (hs.pick 1 rfl) fun ws hs => ?_)
        replace hs : zHas ws (hL g A (fbS s (s.2.2.2.2.2.1 - 1)) (ouAdd u 6 fr (16 * i + f)) ow nb ro pf pa hd R).flatten := zHas.back (cs := hL g A (fbS s (s.2.2.2.2.2.1 - 1)) u ow nb ro pf pa hd R) 1 rfl hs
        refine zo_return (i := i_Ho_answerFault) (pc := 59) hq d_Ho_answerFault_59 rfl (Nat.le_of_ble_eq_true rfl) (Nat.le_of_ble_eq_true rfl) ?_
        unfold faultT at k
        rw [if_pos ⟨.inl (zb_0.mp hG), h23, h30⟩] at k
        exact k ws ⟨_, _, _, _, _, h1, h2, h3, h4, h5, rfl, rfl, rfl, rfl, rfl, h6, hs⟩
  · refine zo_iload_n (i := i_Ho_answerFault) (pc := 5) d_Ho_answerFault_5 rfl ?_
    refine zo_iconst (i := i_Ho_answerFault) (pc := 6) (v := 2) d_Ho_answerFault_6 (by decide) ?_
    refine zo_icmp_ne (i := i_Ho_answerFault) (pc := 7) (tgt := 14) d_Ho_answerFault_7 (by decide) (fun h7 => ?_) (fun h7 => ?_)
    · refine zo_iconst (i := i_Ho_answerFault) (pc := 14) (v := 0) d_Ho_answerFault_14 (by decide) ?_
      refine zo_istore (i := i_Ho_answerFault) (pc := 15) d_Ho_answerFault_15 (Nat.le_of_ble_eq_true rfl) ?_
      refine zo_iload (i := i_Ho_answerFault) (pc := 17) d_Ho_answerFault_17 rfl ?_
      refine zo_if_eq (i := i_Ho_answerFault) (pc := 19) (tgt := 59) d_Ho_answerFault_19 (by decide) (fun h19 => ?_) (fun h19 => False.elim (by first | exact absurd h19 (rfl) | exact absurd (rfl) h19))
      refine zo_return (i := i_Ho_answerFault) (pc := 59) hq d_Ho_answerFault_59 rfl (Nat.le_of_ble_eq_true rfl) (Nat.le_of_ble_eq_true rfl) ?_
      unfold faultT at k
      rw [if_neg (fun q => q.1.elim (fun q => hG (zb_0.mpr q)) h7)] at k
      exact k ws ⟨_, _, _, _, _, h1, h2, h3, h4, h5, rfl, rfl, rfl, rfl, rfl, h6, hs⟩
    · refine zo_iconst (i := i_Ho_answerFault) (pc := 10) (v := 1) d_Ho_answerFault_10 (by decide) ?_
      refine zo_goto (i := i_Ho_answerFault) (pc := 11) (tgt := 15) d_Ho_answerFault_11 (by decide) ?_
      refine zo_istore (i := i_Ho_answerFault) (pc := 15) d_Ho_answerFault_15 (Nat.le_of_ble_eq_true rfl) ?_
      refine zo_iload (i := i_Ho_answerFault) (pc := 17) d_Ho_answerFault_17 rfl ?_
      refine zo_if_eq (i := i_Ho_answerFault) (pc := 19) (tgt := 59) d_Ho_answerFault_19 (by decide) (fun h19 => False.elim (by first | exact absurd h19 (by decide) | exact absurd (by decide) h19)) (fun h19 => ?_)
      refine zo_iload_n (i := i_Ho_answerFault) (pc := 22) d_Ho_answerFault_22 rfl ?_
      refine zo_if_eq (i := i_Ho_answerFault) (pc := 23) (tgt := 59) d_Ho_answerFault_23 (by decide) (fun h23 => ?_) (fun h23 => ?_)
      · refine zo_return (i := i_Ho_answerFault) (pc := 59) hq d_Ho_answerFault_59 rfl (Nat.le_of_ble_eq_true rfl) (Nat.le_of_ble_eq_true rfl) ?_
        unfold faultT at k
        rw [if_neg (fun q => q.2.1 h23)] at k
        exact k ws ⟨_, _, _, _, _, h1, h2, h3, h4, h5, rfl, rfl, rfl, rfl, rfl, h6, hs⟩
      · refine zo_aload_n (i := i_Ho_answerFault) (pc := 26) d_Ho_answerFault_26 rfl rfl ?_
        refine zo_get (i := i_Ho_answerFault) (pc := 27) 9 12 rfl zok_Ho (Nat.le_of_ble_eq_true rfl) (ztb_of k_274 rfl) d_Ho_answerFault_27 (fun _ _ _ h => h) (hs.get (t := 0) rfl) rfl ?_
        refine zo_if_le (i := i_Ho_answerFault) (pc := 30) (tgt := 59) d_Ho_answerFault_30 (by decide) (fun h30 => ?_) (fun h30 => ?_)
        · refine zo_return (i := i_Ho_answerFault) (pc := 59) hq d_Ho_answerFault_59 rfl (Nat.le_of_ble_eq_true rfl) (Nat.le_of_ble_eq_true rfl) ?_
          unfold faultT at k
          rw [if_neg (fun q => q.2.2 h30)] at k
          exact k ws ⟨_, _, _, _, _, h1, h2, h3, h4, h5, rfl, rfl, rfl, rfl, rfl, h6, hs⟩
        · refine zo_aload_n (i := i_Ho_answerFault) (pc := 33) d_Ho_answerFault_33 rfl rfl ?_
          refine zo_dup (i := i_Ho_answerFault) (pc := 34) d_Ho_answerFault_34 rfl ?_
          refine zo_get (i := i_Ho_answerFault) (pc := 35) 9 12 rfl zok_Ho (Nat.le_of_ble_eq_true rfl) (ztb_of k_274 rfl) d_Ho_answerFault_35 (fun _ _ _ h => h) (hs.get (t := 0) rfl) rfl ?_
          refine zo_iconst (i := i_Ho_answerFault) (pc := 38) (v := 1) d_Ho_answerFault_38 (by decide) ?_
          refine zo_isub (i := i_Ho_answerFault) (pc := 39) d_Ho_answerFault_39 ?_
          refine zh_put (i := i_Ho_answerFault) (pc := 40) 9 12 rfl zok_Ho (Nat.le_of_ble_eq_true rfl) (ztb_of k_274 rfl) rfl d_Ho_answerFault_40 (fun _ _ _ h => h) (t_Ho_ok 12 (Nat.le_of_ble_eq_true rfl)) rfl rfl hs 0 rfl (Nat.le_of_ble_eq_true rfl) fun ws hs => ?_
          replace hs : zHas ws (hL g A (fbS s (s.2.2.2.2.2.1 - 1)) u ow nb ro pf pa hd R).flatten := hs
          refine zo_aload_n (i := i_Ho_answerFault) (pc := 43) d_Ho_answerFault_43 rfl rfl ?_
          refine zo_get (i := i_Ho_answerFault) (pc := 44) 9 1 rfl zok_Ho (Nat.le_of_ble_eq_true rfl) (ztb_of k_263 rfl) d_Ho_answerFault_44 (fun _ _ _ h => h) (hs.get (t := 0) rfl) rfl ?_
          refine zo_bipush (i := i_Ho_answerFault) (pc := 47) (v := 6) d_Ho_answerFault_47 (by decide) ?_
          refine zo_iload_n (i := i_Ho_answerFault) (pc := 49) d_Ho_answerFault_49 rfl ?_
          refine zo_bipush (i := i_Ho_answerFault) (pc := 50) (v := 16) d_Ho_answerFault_50 (by decide) ?_
          refine zo_iload_n (i := i_Ho_answerFault) (pc := 52) d_Ho_answerFault_52 rfl ?_
          refine zo_imul (i := i_Ho_answerFault) (pc := 53) d_Ho_answerFault_53 ?_
          refine zo_iload_n (i := i_Ho_answerFault) (pc := 54) d_Ho_answerFault_54 rfl ?_
          refine zo_iadd (i := i_Ho_answerFault) (pc := 55) d_Ho_answerFault_55 ?_
          refine zc_VN3 (i := i_Ho_answerFault) (pc := 56) 4 rfl m_Ou_add (ztb_of k_257 rfl) (ztb_of k_259 rfl) s_Ou_add d_Ho_answerFault_56 (Nat.le_of_ble_eq_true rfl) (Nat.le_of_ble_eq_true rfl) (Nat.le_of_ble_eq_true rfl) (Nat.le_of_ble_eq_true rfl) ((hs.pick 1 rfl).get (t := 0) rfl) (c_ou_add (hs.pick 1 rfl) fun ws hs => ?_)
          replace hs : zHas ws (hL g A (fbS s (s.2.2.2.2.2.1 - 1)) (ouAdd u 6 fr (16 * i + f)) ow nb ro pf pa hd R).flatten := zHas.back (cs := hL g A (fbS s (s.2.2.2.2.2.1 - 1)) u ow nb ro pf pa hd R) 1 rfl hs
          refine zo_return (i := i_Ho_answerFault) (pc := 59) hq d_Ho_answerFault_59 rfl (Nat.le_of_ble_eq_true rfl) (Nat.le_of_ble_eq_true rfl) ?_
          unfold faultT at k
          rw [if_pos ⟨.inr h7, h23, h30⟩] at k
          exact k ws ⟨_, _, _, _, _, h1, h2, h3, h4, h5, rfl, rfl, rfl, rfl, rfl, h6, hs⟩
