/-! The host: its public methods, where they do not refuse (walks by a program, gen27.py). -/
section ZHost8
def uOwT (t : Int32) (l : List zOD) (u : hOu) : hOu := l.foldl (fun u x => if oaP t x then ouAdd u 1 65535 x.1 else u) u
def uNbT (t : Int32) (l : List zND) (u : hOu) : hOu := l.foldl (fun u x => if ndQ t x then ouAdd u 2 (askTo (ndA t x)) x.1 else u) u
def zgwT (t : Int32) : List zND → Int32
  | [] => 0
  | x :: r => if zgone t x then zgwT t r + zb (!decide (x.2.2.2.2.2 = 0)) else zgwT t r
theorem uOw_snd (t : Int32) (l : List (Nat × zOD)) (u : hOu) : uOw t l u = uOwT t (l.map Prod.snd) u := by unfold uOw uOwT; rw [List.foldl_map]
theorem uNb_snd (t : Int32) (l : List (Nat × zND)) (u : hOu) : uNb t l u = uNbT t (l.map Prod.snd) u := by unfold uNb uNbT; rw [List.foldl_map]
theorem zgw_snd (t : Int32) : ∀ (l : List (Nat × zND)), zgw t l = zgwT t (l.map Prod.snd)
  | [] => rfl
  | e :: r => by rw [List.map_cons, zgw, zgwT, zgw_snd t r]
def dueT (q : hT) : hT :=
  (dueS q.1 (zgwT q.1.2.1 (q.2.2.2.1.map (ndA q.1.2.1))), uNbT q.1.2.1 q.2.2.2.1 (uOwT q.1.2.1 (q.2.2.1.filter (fun x => decide (q.1.2.1 < x.2.2.2.1))) q.2.1), (q.2.2.1.filter (fun x => decide (q.1.2.1 < x.2.2.2.1))).map (oaA q.1.2.1), (q.2.2.2.1.map (ndA q.1.2.1)).filter (fun x => !zgone q.1.2.1 x),
    q.2.2.2.2.1.filter (fun x => decide (q.1.2.1 < x.2.1)), q.2.2.2.2.2.1.filter (fun x => decide (q.1.2.1 < x.2.1)), q.2.2.2.2.2.2.1.filter (fun x => decide (q.1.2.1 < x.2.1)), q.2.2.2.2.2.2.2)
theorem filter_snd {α : Type} (p : α → Bool) (l : List (Nat × α)) : (l.filter (fun e => p e.2)).map Prod.snd = (l.map Prod.snd).filter p := by rw [List.filter_map]; rfl
theorem map_snd {α : Type} (f : α → α) (l : List (Nat × α)) : (l.map (fun e => (e.1, f e.2))).map Prod.snd = (l.map Prod.snd).map f := by rw [List.map_map, List.map_map]; rfl
theorem hok_filter {α : Type} {n : Nat} {x : hLi α} {m : Int32} {p : Nat × α → Bool} (h : hok n x) : hok n ((x.1.1, m), x.2.filter p) := ⟨fun q => (by show x.2.filter p = []; rw [h.1 q]; rfl), Nat.le_trans (List.length_filter_le _ _) h.2⟩
theorem hok_map {α : Type} {n : Nat} {x : hLi α} {m : Int32} {f : Nat × α → Nat × α} (h : hok n x) : hok n ((x.1.1, m), x.2.map f) := ⟨fun q => (by show x.2.map f = []; rw [h.1 q]; rfl), by show (x.2.map f).length ≤ n; rw [List.length_map]; exact h.2⟩
theorem c_due {g : zG} {ws : va_W} {post : Option Value → va_W → Prop} {A : Nat → Nat} {q : hT} {R : va_W} (h : hH g A q R ws) (k : ∀ w, hH g A (dueT q) R w → post none w) : zC g i_Ho_doWhatIsDue [.ref (A 0)] ws post := by
  obtain ⟨s, u, lo, ln, lr, lp, la, hd⟩ := q
  obtain ⟨ow, nb, ro, pf, pa, h1, h2, h3, h4, h5, rfl, rfl, rfl, rfl, rfl, h6, hs⟩ := h
  refine c_Ho_doWhatIsDue h1 h2 h3 h4 h5 hs fun m0 m1 m2 m3 m4 w hw => k w ?_
  have a1 : hok 5 ((ow.1.1, m0), (ow.2.filter (fun e => decide (s.2.1 < e.2.2.2.2.1))).map (fOw s.2.1)) := hok_map (x := ((ow.1.1, m0), _)) (hok_filter h1)
  have a2 : hok 6 ((nb.1.1, m1), (nb.2.map (fNb s.2.1)).filter (fun e => !zgone s.2.1 e.2)) := hok_filter (x := ((nb.1.1, m1), _)) (hok_map h2)
  have e1 : ((ow.2.filter (fun e => decide (s.2.1 < e.2.2.2.2.1))).map (fOw s.2.1)).map Prod.snd = ((ow.2.map Prod.snd).filter (fun x => decide (s.2.1 < x.2.2.2.1))).map (oaA s.2.1) := by
    rw [← filter_snd (fun x : zOD => decide (s.2.1 < x.2.2.2.1))]
    exact map_snd (oaA s.2.1) _
  have e2 : (nb.2.map (fNb s.2.1)).map Prod.snd = (nb.2.map Prod.snd).map (ndA s.2.1) := map_snd (ndA s.2.1) _
  have e3 : ((nb.2.map (fNb s.2.1)).filter (fun e => !zgone s.2.1 e.2)).map Prod.snd = ((nb.2.map Prod.snd).map (ndA s.2.1)).filter (fun x => !zgone s.2.1 x) := by
    rw [← e2]
    exact filter_snd (fun x : zND => !zgone s.2.1 x) _
  refine ⟨_, _, _, _, _, a1, a2, hok_filter (m := m2) h3, hok_filter (m := m3) h4, hok_filter (m := m4) h5, e1, e3, filter_snd (fun x : zTD => decide (s.2.1 < x.2.1)) _, filter_snd (fun x : zTD => decide (s.2.1 < x.2.1)) _, filter_snd (fun x : zTD => decide (s.2.1 < x.2.1)) _, h6, ?_⟩
  show zHas w (hL g A (dueS s (zgwT s.2.1 ((nb.2.map Prod.snd).map (ndA s.2.1)))) (uNbT s.2.1 (nb.2.map Prod.snd) (uOwT s.2.1 ((ow.2.map Prod.snd).filter (fun x => decide (s.2.1 < x.2.2.2.1))) u)) _ _ _ _ _ hd R).flatten
  rw [← e2, ← zgw_snd, ← uNb_snd, ← filter_snd (fun x : zOD => decide (s.2.1 < x.2.2.2.1)), ← uOw_snd]
  exact hw
def tickS (s : hSc) : hSc := (s.1, s.2.1 + 1, s.2.2)
def stepT (q : hT) : hT := if q.1.2.2.2.2.2.2 then tS q (tickS q.1) else dueT (tS q (tickS q.1))
def tickT : Nat → hT → hT
  | 0, q => q
  | n + 1, q => tickT n (stepT q)
def lsS (s : hSc) (z : Int32) : hSc := (s.1, s.2.1, z, s.2.2.2)
def routerT (q : hT) (a n l z : Int32) : hT :=
  let q1 := lnT q (256 * 1 + a) n
  let q2 := tN q1 (zset1 (fun e => decide (e.1 = 256 * 1 + a)) (fun x => ndR x true) q1.2.2.2.1)
  let q3 := if l = 0 then tR q2 (q2.2.2.2.2.1.filter (fun e => !decide (e.1 = 256 * 1 + a))) else tR q2 (tkeep 3 (256 * 1 + a, zend q.1.2.1 l, 0) q2.2.2.2.2.1)
  if zwithin z 8 40 then tS q3 (lsS q3.1 z) else q3
def prefixT (q : hT) (p f v r : Int32) : hT := if p = 1 then q else
  let q1 := if f &&& 1 = 0 then q else hearOnLinkT q p v
  if f &&& 2 = 0 ∨ v < r then q1 else hearFormT q1 p v r
def dupS (s : hSc) (x : zOD) : hSc := (s.1, s.2.1, s.2.2.1, s.2.2.2.1, s.2.2.2.2.1, s.2.2.2.2.2.1, s.2.2.2.2.2.2 || zlocal x.1)
def dupT (q : hT) (a : Int32) (x : zOD) : hT := tS (tO q (zset1 (fun e => decide (e.1 = a)) (fun x => oaS x 4) q.2.2.1)) (dupS q.1 x)
def askedT (q : hT) (f t n : Int32) : hT := match q.2.2.1.find? (fun e => decide (e.1 = t)) with
  | none => q
  | some x => if zusable x.2.2.1 then (let q1 := if f = 0 then q else lnT q f n; tU q1 (ouAdd q1.2.1 3 (if f = 0 then 65535 else f) t)) else if f = 0 ∧ x.2.2.1 = 1 then dupT q t x else q
def toldN (q : hT) (t n fl : Int32) : hT := match q.2.2.2.1.find? (fun e => decide (e.1 = t)) with
  | none => q
  | some x => if ¬ x.2.2.1 = 1 ∧ ¬ x.2.1 = n ∧ fl &&& 4 = 0 then tN q (zset1 (fun e => decide (e.1 = t)) (fun x => if x.2.2.1 = 2 then ndS x 3 q.1.2.1 else x) q.2.2.2.1)
    else tR (tU (tN q (zset1 (fun e => decide (e.1 = t)) (fun x => ndR (hnX q.1.2.1 n fl x) (!decide (fl &&& 1 = 0))) q.2.2.2.1)) (hnU q.2.1 x)) (rdrop q.2.2.2.2.1 (hnX q.1.2.1 n fl x) (!decide (fl &&& 1 = 0)))
def toldT (q : hT) (t n fl : Int32) : hT := match q.2.2.1.find? (fun e => decide (e.1 = t)) with
  | none => toldN q t n fl
  | some x => if x.2.2.1 = 1 then dupT q t x else toldN q t n fl
def sendQ (q : hT) (t n : Int32) : Int32 × hT := if q.2.2.1.any (fun x => zusable x.2.2.1 && (zlocal x.1 == zlocal t)) = false then (4, q) else if sizeT q t < n then (2, q) else
  let hp := if onLinkT q t then t else hopT q.2.2.2.2.1 q.2.2.2.1
  if hp = 0 then (3, q) else sendT q hp n
def smallT (q : hT) (t n : Int32) : hT := if n < 8 ∨ sizeT q t ≤ n then q else tA q (tkeep 4 (t, q.1.2.1 + 30, n) q.2.2.2.2.2.2.1)
def tH (q : hT) (h : hHd) : hT := (q.1, q.2.1, q.2.2.1, q.2.2.2.1, q.2.2.2.2.1, q.2.2.2.2.2.1, q.2.2.2.2.2.2.1, h)
def headT (q : hT) (k n : Int32) : hT := tH q (q.2.2.2.2.2.2.2.1 + 1, upd q.2.2.2.2.2.2.2.2.1 q.2.2.2.2.2.2.2.1 k, upd q.2.2.2.2.2.2.2.2.2 q.2.2.2.2.2.2.2.1 n)
def clearT (q : hT) : hT := tH q (0, q.2.2.2.2.2.2.2.2)
def comeT (q : hT) (f t : Int32) : Int32 × hT := if forT q t then ((lookT q f (decide (t = 65535)) q.2.2.2.2.2.2.2.1 0).1, clearT (lookT q f (decide (t = 65535)) q.2.2.2.2.2.2.2.1 0).2) else (0, clearT q)
theorem ou_slot : ∀ r, r < 12 → ∀ c, c < 12 → zfm (nI r - 1 - nI c) 12 = nI ((r + 23 - c) % 12) := by decide +kernel
end ZHost8
theorem c_Ho_tick {g : zG} {ws : va_W} {post : Option Value → va_W → Prop} {A : Nat → Nat} {q : hT} {R : va_W} (h : hH g A q R ws) {n : Nat} (h1n : 1 ≤ n) (hn : n ≤ 100) (k : ∀ w, hH g A (tickT n q) R w → post none w) : zC g i_Ho_tick [.ref (A 0), .int (nI n)] ws post := by
  refine zC.intro (by decide +kernel) rfl (Nat.le_of_ble_eq_true rfl) fun x0 hq => ?_
  have loop : ∀ (m i : Nat) (q : hT) (ws : va_W), i + m = n → hH g A q R ws → (∀ w, hH g A (tickT m q) R w → post none w) → zW x0 g i_Ho_tick 12 [some (.ref (A 0)), some (.int (nI n)), some (.int (nI i))] [] ws 1 6 := by
    intro m
    induction m with
    | zero =>
      intro i q ws hi h k
      refine zo_iload_n (i := i_Ho_tick) (pc := 12) d_Ho_tick_12 rfl ?_
      refine zo_iload_n (i := i_Ho_tick) (pc := 13) d_Ho_tick_13 rfl ?_
      refine zo_icmp_ge (i := i_Ho_tick) (pc := 14) (tgt := 44) d_Ho_tick_14 (by decide) (fun h14 => ?_) (fun h14 => False.elim (by first | exact absurd h14 (nI_le (by omega) (by omega)) | exact absurd (nI_le (by omega) (by omega)) h14))
      refine zo_return (i := i_Ho_tick) (pc := 44) hq d_Ho_tick_44 rfl (Nat.le_of_ble_eq_true rfl) (Nat.le_of_ble_eq_true rfl) ?_
      exact k ws h
    | succ m ih =>
      intro i q ws hi h k
      have h0 := h
      obtain ⟨s, u, lo, ln, lr, lp, la, hd⟩ := q
      obtain ⟨ow, nb, ro, pf, pa, h1, h2, h3, h4, h5, rfl, rfl, rfl, rfl, rfl, h6, hs⟩ := h
      replace hs : zHas ws (hL g A s u ow nb ro pf pa hd R).flatten := hs
      refine zo_iload_n (i := i_Ho_tick) (pc := 12) d_Ho_tick_12 rfl ?_
      refine zo_iload_n (i := i_Ho_tick) (pc := 13) d_Ho_tick_13 rfl ?_
      refine zo_icmp_ge (i := i_Ho_tick) (pc := 14) (tgt := 44) d_Ho_tick_14 (by decide) (fun h14 => False.elim (by first | exact absurd h14 (nI_ge (by omega) (by omega)) | exact absurd (nI_ge (by omega) (by omega)) h14)) (fun h14 => ?_)
      refine zo_aload_n (i := i_Ho_tick) (pc := 17) d_Ho_tick_17 rfl rfl ?_
      refine zo_dup (i := i_Ho_tick) (pc := 18) d_Ho_tick_18 rfl ?_
      refine zo_get (i := i_Ho_tick) (pc := 19) 9 8 rfl zok_Ho (Nat.le_of_ble_eq_true rfl) (ztb_of k_270 rfl) d_Ho_tick_19 (fun _ _ _ h => h) (hs.get (t := 0) rfl) rfl ?_
      refine zo_iconst (i := i_Ho_tick) (pc := 22) (v := 1) d_Ho_tick_22 (by decide) ?_
      refine zo_iadd (i := i_Ho_tick) (pc := 23) d_Ho_tick_23 ?_
      refine zh_put (i := i_Ho_tick) (pc := 24) 9 8 rfl zok_Ho (Nat.le_of_ble_eq_true rfl) (ztb_of k_270 rfl) rfl d_Ho_tick_24 (fun _ _ _ h => h) (t_Ho_ok 8 (Nat.le_of_ble_eq_true rfl)) rfl rfl hs 0 rfl (Nat.le_of_ble_eq_true rfl) fun ws hs => ?_
      replace hs : zHas ws (hL g A (tickS s) u ow nb ro pf pa hd R).flatten := hs
      refine zo_aload_n (i := i_Ho_tick) (pc := 27) d_Ho_tick_27 rfl rfl ?_
      refine zo_get (i := i_Ho_tick) (pc := 28) 9 13 rfl zok_Ho (Nat.le_of_ble_eq_true rfl) (ztb_of k_275 rfl) d_Ho_tick_28 (fun _ _ _ h => h) (hs.get (t := 0) rfl) rfl ?_
      refine zo_if_ne (i := i_Ho_tick) (pc := 31) (tgt := 38) d_Ho_tick_31 (by decide) (fun hD => ?_) (fun hD => ?_)
      · refine zo_iinc (i := i_Ho_tick) (pc := 38) (v := nI (i + 1)) d_Ho_tick_38 rfl (nI_inc i) (Nat.le_of_ble_eq_true rfl) ?_
        refine zo_goto (i := i_Ho_tick) (pc := 41) (tgt := 12) d_Ho_tick_41 (by decide) ?_
        rw [zb_0, Bool.not_eq_false] at hD
        have es : stepT (s, u, ow.2.map Prod.snd, nb.2.map Prod.snd, ro.2.map Prod.snd, pf.2.map Prod.snd, pa.2.map Prod.snd, hd) = tS (s, u, ow.2.map Prod.snd, nb.2.map Prod.snd, ro.2.map Prod.snd, pf.2.map Prod.snd, pa.2.map Prod.snd, hd) (tickS s) := by
          unfold stepT
          exact if_pos hD
        rw [tickT, es] at k
        exact ih (i + 1) (tS (s, u, ow.2.map Prod.snd, nb.2.map Prod.snd, ro.2.map Prod.snd, pf.2.map Prod.snd, pa.2.map Prod.snd, hd) (tickS s)) ws (by omega) ⟨_, _, _, _, _, h1, h2, h3, h4, h5, rfl, rfl, rfl, rfl, rfl, h6, hs⟩ k
      · refine zo_aload_n (i := i_Ho_tick) (pc := 34) d_Ho_tick_34 rfl rfl ?_
        refine zc_V0 (i := i_Ho_tick) (pc := 35) 9 rfl m_Ho_doWhatIsDue (ztb_of k_433 rfl) (ztb_of k_435 rfl) s_Ho_doWhatIsDue d_Ho_tick_35 (Nat.le_of_ble_eq_true rfl) (Nat.le_of_ble_eq_true rfl) (Nat.le_of_ble_eq_true rfl) (Nat.le_of_ble_eq_true rfl) (hs.get (t := 0) rfl) (c_due (q := tS (s, u, ow.2.map Prod.snd, nb.2.map Prod.snd, ro.2.map Prod.snd, pf.2.map Prod.snd, pa.2.map Prod.snd, hd) (tickS s)) ⟨_, _, _, _, _, h1, h2, h3, h4, h5, rfl, rfl, rfl, rfl, rfl, h6, hs⟩ fun ws hF => ?_)
        refine zo_iinc (i := i_Ho_tick) (pc := 38) (v := nI (i + 1)) d_Ho_tick_38 rfl (nI_inc i) (Nat.le_of_ble_eq_true rfl) ?_
        refine zo_goto (i := i_Ho_tick) (pc := 41) (tgt := 12) d_Ho_tick_41 (by decide) ?_
        rw [zb_0] at hD
        have es : stepT (s, u, ow.2.map Prod.snd, nb.2.map Prod.snd, ro.2.map Prod.snd, pf.2.map Prod.snd, pa.2.map Prod.snd, hd) = dueT (tS (s, u, ow.2.map Prod.snd, nb.2.map Prod.snd, ro.2.map Prod.snd, pf.2.map Prod.snd, pa.2.map Prod.snd, hd) (tickS s)) := by
          unfold stepT
          exact if_neg (fun q => absurd (hD.symm.trans q) (by decide))
        rw [tickT, es] at k
        exact ih (i + 1) (_) ws (by omega) hF k
  refine zo_iload_n (i := i_Ho_tick) (pc := 0) d_Ho_tick_0 rfl ?_
  refine zo_iconst (i := i_Ho_tick) (pc := 1) (v := 1) d_Ho_tick_1 (by decide) ?_
  refine zo_bipush (i := i_Ho_tick) (pc := 2) (v := 100) d_Ho_tick_2 (by decide) ?_
  refine zc_S3 (i := i_Ho_tick) (pc := 4) m_Ho_isWithin (ztb_of k_359 rfl) (ztb_of k_360 rfl) d_Ho_tick_4 (Nat.le_of_ble_eq_true rfl) (Nat.le_of_ble_eq_true rfl) (Nat.le_of_ble_eq_true rfl) (Nat.le_of_ble_eq_true rfl) (c_Ho_isWithin ?_)
  have hw : ¬ zwithin (nI n) 1 100 = false := by
    unfold zwithin
    rw [show (1 : Int32) = nI 1 by decide, show (100 : Int32) = nI 100 by decide, decide_eq_false (nI_nlt h1n (by omega) : ¬ nI n < nI 1), decide_eq_false (nI_nlt hn (by decide) : ¬ nI 100 < nI n)]
    decide
  refine zc_S1 (i := i_Ho_tick) (pc := 7) m_Ho_requireArguments (ztb_of k_362 rfl) (ztb_of k_363 rfl) d_Ho_tick_7 (Nat.le_of_ble_eq_true rfl) (Nat.le_of_ble_eq_true rfl) (Nat.le_of_ble_eq_true rfl) (Nat.le_of_ble_eq_true rfl) (c_Ho_requireArguments (fun q => hw (zb_0.mp q)) ?_)
  refine zo_iconst (i := i_Ho_tick) (pc := 10) (v := 0) d_Ho_tick_10 (by decide) ?_
  refine zo_istore_n (i := i_Ho_tick) (pc := 11) d_Ho_tick_11 (Nat.le_of_ble_eq_true rfl) ?_
  exact loop n 0 q ws (by omega) h k
