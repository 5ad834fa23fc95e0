/-! The host without addresses: what its methods make of it (walks by a program, gen23.py). -/
section ZHost4
/-- the world holds a host in this state, and R -/
def hH (g : zG) (A : Nat → Nat) (q : hT) (R ws : va_W) : Prop :=
  ∃ (ow : hLi zOD) (nb : hLi zND) (ro pf pa : hLi zTD), hok 5 ow ∧ hok 6 nb ∧ hok 3 ro ∧ hok 4 pf ∧ hok 4 pa ∧ ow.2.map Prod.snd = q.2.2.1 ∧ nb.2.map Prod.snd = q.2.2.2.1 ∧ ro.2.map Prod.snd = q.2.2.2.2.1 ∧ pf.2.map Prod.snd = q.2.2.2.2.2.1 ∧ pa.2.map Prod.snd = q.2.2.2.2.2.2.1 ∧ q.2.2.2.2.2.2.2.1 ≤ 6 ∧
    zHas ws (hL g A q.1 q.2.1 ow nb ro pf pa q.2.2.2.2.2.2.2 R).flatten
def tS (q : hT) (s : hSc) : hT := (s, q.2)
def tU (q : hT) (u : hOu) : hT := (q.1, u, q.2.2)
def tO (q : hT) (l : List zOD) : hT := (q.1, q.2.1, l, q.2.2.2)
def tN (q : hT) (l : List zND) : hT := (q.1, q.2.1, q.2.2.1, l, q.2.2.2.2)
def tR (q : hT) (l : List zTD) : hT := (q.1, q.2.1, q.2.2.1, q.2.2.2.1, l, q.2.2.2.2.2)
def tP (q : hT) (l : List zTD) : hT := (q.1, q.2.1, q.2.2.1, q.2.2.2.1, q.2.2.2.2.1, l, q.2.2.2.2.2.2)
def tA (q : hT) (l : List zTD) : hT := (q.1, q.2.1, q.2.2.1, q.2.2.2.1, q.2.2.2.2.1, q.2.2.2.2.2.1, l, q.2.2.2.2.2.2.2)
theorem zset1_map {α : Type} (p : α → Bool) (f : α → α) : ∀ (l : List (Nat × α)), (zset1 (fun e => p e.2) (fun e => (e.1, f e.2)) l).map Prod.snd = zset1 p f (l.map Prod.snd)
  | [] => rfl
  | e :: r => by
    rw [List.map_cons, zset1, zset1]
    by_cases h : p e.2 = true
    · rw [if_pos h, if_pos h]
      rfl
    · rw [if_neg h, if_neg h, List.map_cons, zset1_map p f r]
theorem set_snd {α : Type} {p : α → Bool} {f : α → α} {l : List (Nat × α)} {j : Nat} {e : Nat × α} (hno : ∀ y ∈ l.take j, p y.2 = false) (he : l[j]? = some e) (hp : p e.2 = true) : (l.set j (e.1, f e.2)).map Prod.snd = zset1 p f (l.map Prod.snd) := by
  rw [← zset1_map, zset1_at (p := fun e => p e.2) hno he hp]
def sizeT (q : hT) (a : Int32) : Int32 := match q.2.2.2.2.2.2.1.find? (fun e => decide (e.1 = a)) with
  | none => q.1.2.2.1
  | some x => if q.1.2.2.1 < x.2.2 then q.1.2.2.1 else x.2.2
def onLinkT (q : hT) (a : Int32) : Bool := zlocal a || (q.2.2.2.2.2.1.find? (fun e => decide (e.1 = a / 256))).isSome
def forT (q : hT) (a : Int32) : Bool := decide (a = 65535) || (match q.2.2.1.find? (fun e => decide (e.1 = a)) with
  | none => false
  | some x => zusable x.2.2.1)
def nbT (q : hT) (a : Int32) : Int32 := match q.2.2.2.1.find? (fun e => decide (e.1 = a)) with
  | none => 0
  | some x => x.2.2.1 + 8 * x.2.1 + (if x.2.2.2.2.1 then 1024 else 0) + (if x.2.2.2.2.2 = 0 then 0 else 2048)
def hearOnLinkT (q : hT) (p v : Int32) : hT := if v = 0 then tP q (q.2.2.2.2.2.1.filter (fun e => !decide (e.1 = p))) else tP q (tkeep 4 (p, zend q.1.2.1 v, 0) q.2.2.2.2.2.1)
def formT (q : hT) (p ve pe : Int32) : hT := tU (tO q (q.2.2.1 ++ [(256 * p + q.1.1, q.1.2.1, 1, ve, pe)])) (ouAdd q.2.1 1 65535 (256 * p + q.1.1))
def hearFormT (q : hT) (p v r : Int32) : hT := match q.2.2.1.find? (fun e => decide (e.1 = 256 * p + q.1.1)) with
  | none => if ¬ v = 0 ∧ q.2.2.1.length < 5 then formT q p (zend q.1.2.1 v) (zend q.1.2.1 r) else q
  | some x => if x.2.2.1 = 4 then q else tO q (zset1 (fun e => decide (e.1 = 256 * p + q.1.1)) (oaR q.1.2.1 v r) q.2.2.1)
def sendT (q : hT) (h n : Int32) : Int32 × hT := match q.2.2.2.1.find? (fun e => decide (e.1 = h)) with
  | none => (1, tU (tN q (zcap 6 q.2.2.2.1 ++ [(h, 0, 1, q.1.2.1, false, n)])) (ouAdd q.2.1 2 65535 h))
  | some x => if x.2.2.1 = 1 then (1, tN q (zset1 (fun e => decide (e.1 = h)) (fun x => ndW x n) q.2.2.2.1)) else (0, tU (tN q (zset1 (fun e => decide (e.1 = h)) (ndD q.1.2.1) q.2.2.2.1)) (ouAdd q.2.1 4 x.1 n))
end ZHost4
theorem c_Ho_sizeTo {g : zG} {ws : va_W} {post : Option Value → va_W → Prop} {A : Nat → Nat} {q : hT} {R : va_W} (h : hH g A q R ws) {a : Int32} (k : post (some (.int (sizeT q a))) ws) : zC g i_Ho_sizeTo [.ref (A 0), .int a] ws post := by
  refine zC.intro (by decide +kernel) rfl (Nat.le_of_ble_eq_true rfl) fun x0 hq => ?_
  obtain ⟨s, u, lo, ln, lr, lp, la, hd⟩ := q
  obtain ⟨ow, nb, ro, pf, pa, h1, h2, h3, h4, h5, rfl, rfl, rfl, rfl, rfl, h6, hs⟩ := h
  replace hs : zHas ws (hL g A s u ow nb ro pf pa hd R).flatten := hs
  have hfs := find_snd (fun e => decide (e.1 = a)) pa.2
  cases hf : pa.2.find? (fun e => decide (e.2.1 = a)) with
  | none =>
    rw [hf] at hfs
    refine zo_aload_n (i := i_Ho_sizeTo) (pc := 0) d_Ho_sizeTo_0 rfl rfl ?_
    refine zo_get (i := i_Ho_sizeTo) (pc := 1) 9 6 rfl zok_Ho (Nat.le_of_ble_eq_true rfl) (ztb_of k_268 rfl) d_Ho_sizeTo_1 (fun _ _ _ h => h) (hs.get (t := 0) rfl) rfl ?_
    refine zo_iload_n (i := i_Ho_sizeTo) (pc := 4) d_Ho_sizeTo_4 rfl ?_
    refine zc_VN1 (i := i_Ho_sizeTo) (pc := 5) 8 rfl m_Tr_find (ztb_of k_341 rfl) (ztb_of k_343 rfl) s_Tr_find d_Ho_sizeTo_5 (Nat.le_of_ble_eq_true rfl) (Nat.le_of_ble_eq_true rfl) (Nat.le_of_ble_eq_true rfl) (Nat.le_of_ble_eq_true rfl) ((hs.pick 6 rfl).get (t := 0) rfl) (c_Tr_find (hs.pick 6 rfl) h5.1 (Nat.le_trans h5.2 (by decide)) ?_)
    rw [hf]
    refine zo_astore_n (i := i_Ho_sizeTo) (pc := 8) d_Ho_sizeTo_8 rfl (Nat.le_of_ble_eq_true rfl) ?_
    refine zo_aload_n (i := i_Ho_sizeTo) (pc := 9) d_Ho_sizeTo_9 rfl rfl ?_
    refine zo_ifnonnull (i := i_Ho_sizeTo) (pc := 10) (tgt := 20) d_Ho_sizeTo_10 (by decide) rfl (fun h10 => False.elim (by first | exact absurd h10 ((by rintro ⟨_, q⟩; cases q)) | exact absurd ((by rintro ⟨_, q⟩; cases q)) h10)) (fun h10 => ?_)
    refine zo_aload_n (i := i_Ho_sizeTo) (pc := 13) d_Ho_sizeTo_13 rfl rfl ?_
    refine zo_get (i := i_Ho_sizeTo) (pc := 14) 9 9 rfl zok_Ho (Nat.le_of_ble_eq_true rfl) (ztb_of k_271 rfl) d_Ho_sizeTo_14 (fun _ _ _ h => h) (hs.get (t := 0) rfl) rfl ?_
    refine zo_goto (i := i_Ho_sizeTo) (pc := 17) (tgt := 31) d_Ho_sizeTo_17 (by decide) ?_
    refine zo_ireturn (i := i_Ho_sizeTo) (pc := 31) hq d_Ho_sizeTo_31 rfl (Nat.le_of_ble_eq_true rfl) (Nat.le_of_ble_eq_true rfl) ?_
    unfold sizeT at k
    rw [hfs] at k
    exact k
  | some e =>
    rw [hf] at hfs
    obtain ⟨j, hj, hpj, hno⟩ := zfind_idx hf
    have hkey : e.2.1 = a := of_decide_eq_true hpj
    have hse := rw_el (hs.pick 6 rfl) hj
    refine zo_aload_n (i := i_Ho_sizeTo) (pc := 0) d_Ho_sizeTo_0 rfl rfl ?_
    refine zo_get (i := i_Ho_sizeTo) (pc := 1) 9 6 rfl zok_Ho (Nat.le_of_ble_eq_true rfl) (ztb_of k_268 rfl) d_Ho_sizeTo_1 (fun _ _ _ h => h) (hs.get (t := 0) rfl) rfl ?_
    refine zo_iload_n (i := i_Ho_sizeTo) (pc := 4) d_Ho_sizeTo_4 rfl ?_
    refine zc_VN1 (i := i_Ho_sizeTo) (pc := 5) 8 rfl m_Tr_find (ztb_of k_341 rfl) (ztb_of k_343 rfl) s_Tr_find d_Ho_sizeTo_5 (Nat.le_of_ble_eq_true rfl) (Nat.le_of_ble_eq_true rfl) (Nat.le_of_ble_eq_true rfl) (Nat.le_of_ble_eq_true rfl) ((hs.pick 6 rfl).get (t := 0) rfl) (c_Tr_find (hs.pick 6 rfl) h5.1 (Nat.le_trans h5.2 (by decide)) ?_)
    rw [hf]
    refine zo_astore_n (i := i_Ho_sizeTo) (pc := 8) d_Ho_sizeTo_8 rfl (Nat.le_of_ble_eq_true rfl) ?_
    refine zo_aload_n (i := i_Ho_sizeTo) (pc := 9) d_Ho_sizeTo_9 rfl rfl ?_
    refine zo_ifnonnull (i := i_Ho_sizeTo) (pc := 10) (tgt := 20) d_Ho_sizeTo_10 (by decide) rfl (fun h10 => ?_) (fun h10 => False.elim (by first | exact absurd h10 ((by intro q; cases q)) | exact absurd ((by intro q; cases q)) h10))
    refine zo_aload_n (i := i_Ho_sizeTo) (pc := 20) d_Ho_sizeTo_20 rfl rfl ?_
    refine zo_getN (i := i_Ho_sizeTo) (pc := 21) 7 2 rfl zok_Ti (Nat.le_of_ble_eq_true rfl) (ztb_of k_613 rfl) d_Ho_sizeTo_21 (fun _ _ _ h => h) hse rfl ?_
    refine zo_aload_n (i := i_Ho_sizeTo) (pc := 24) d_Ho_sizeTo_24 rfl rfl ?_
    refine zo_get (i := i_Ho_sizeTo) (pc := 25) 9 9 rfl zok_Ho (Nat.le_of_ble_eq_true rfl) (ztb_of k_271 rfl) d_Ho_sizeTo_25 (fun _ _ _ h => h) (hs.get (t := 0) rfl) rfl ?_
    refine zc_S2 (i := i_Ho_sizeTo) (pc := 28) m_Ma_min (ztb_of k_147 rfl) (ztb_of k_148 rfl) d_Ho_sizeTo_28 (Nat.le_of_ble_eq_true rfl) (Nat.le_of_ble_eq_true rfl) (Nat.le_of_ble_eq_true rfl) (Nat.le_of_ble_eq_true rfl) (c_Ma_min ?_)
    refine zo_ireturn (i := i_Ho_sizeTo) (pc := 31) hq d_Ho_sizeTo_31 rfl (Nat.le_of_ble_eq_true rfl) (Nat.le_of_ble_eq_true rfl) ?_
    unfold sizeT at k
    rw [hfs] at k
    exact k
theorem c_Ho_neighbour {g : zG} {ws : va_W} {post : Option Value → va_W → Prop} {A : Nat → Nat} {q : hT} {R : va_W} (h : hH g A q R ws) {a : Int32} (k : post (some (.int (nbT q a))) ws) : zC g i_Ho_neighbour [.ref (A 0), .int a] ws post := by
  refine zC.intro (by decide +kernel) rfl (Nat.le_of_ble_eq_true rfl) fun x0 hq => ?_
  obtain ⟨s, u, lo, ln, lr, lp, la, hd⟩ := q
  obtain ⟨ow, nb, ro, pf, pa, h1, h2, h3, h4, h5, rfl, rfl, rfl, rfl, rfl, h6, hs⟩ := h
  replace hs : zHas ws (hL g A s u ow nb ro pf pa hd R).flatten := hs
  have hfs := find_snd (fun e => decide (e.1 = a)) nb.2
  cases hf : nb.2.find? (fun e => decide (e.2.1 = a)) with
  | none =>
    rw [hf] at hfs
    refine zo_aload_n (i := i_Ho_neighbour) (pc := 0) d_Ho_neighbour_0 rfl rfl ?_
    refine zo_get (i := i_Ho_neighbour) (pc := 1) 9 3 rfl zok_Ho (Nat.le_of_ble_eq_true rfl) (ztb_of k_265 rfl) d_Ho_neighbour_1 (fun _ _ _ h => h) (hs.get (t := 0) rfl) rfl ?_
    refine zo_iload_n (i := i_Ho_neighbour) (pc := 4) d_Ho_neighbour_4 rfl ?_
    refine zc_VN1 (i := i_Ho_neighbour) (pc := 5) 3 rfl m_Nr_find (ztb_of k_309 rfl) (ztb_of k_311 rfl) s_Nr_find d_Ho_neighbour_5 (Nat.le_of_ble_eq_true rfl) (Nat.le_of_ble_eq_true rfl) (Nat.le_of_ble_eq_true rfl) (Nat.le_of_ble_eq_true rfl) ((hs.pick 3 rfl).get (t := 0) rfl) (c_Nr_find (hs.pick 3 rfl) h2.1 (Nat.le_trans h2.2 (by decide)) ?_)
    rw [hf]
    refine zo_astore_n (i := i_Ho_neighbour) (pc := 8) d_Ho_neighbour_8 rfl (Nat.le_of_ble_eq_true rfl) ?_
    refine zo_aload_n (i := i_Ho_neighbour) (pc := 9) d_Ho_neighbour_9 rfl rfl ?_
    refine zo_ifnonnull (i := i_Ho_neighbour) (pc := 10) (tgt := 15) d_Ho_neighbour_10 (by decide) rfl (fun h10 => False.elim (by first | exact absurd h10 ((by rintro ⟨_, q⟩; cases q)) | exact absurd ((by rintro ⟨_, q⟩; cases q)) h10)) (fun h10 => ?_)
    refine zo_iconst (i := i_Ho_neighbour) (pc := 13) (v := 0) d_Ho_neighbour_13 (by decide) ?_
    refine zo_ireturn (i := i_Ho_neighbour) (pc := 14) hq d_Ho_neighbour_14 rfl (Nat.le_of_ble_eq_true rfl) (Nat.le_of_ble_eq_true rfl) ?_
    unfold nbT at k
    rw [hfs] at k
    exact k
  | some e =>
    rw [hf] at hfs
    obtain ⟨j, hj, hpj, hno⟩ := zfind_idx hf
    have hkey : e.2.1 = a := of_decide_eq_true hpj
    have hse := rw_el (hs.pick 3 rfl) hj
    refine zo_aload_n (i := i_Ho_neighbour) (pc := 0) d_Ho_neighbour_0 rfl rfl ?_
    refine zo_get (i := i_Ho_neighbour) (pc := 1) 9 3 rfl zok_Ho (Nat.le_of_ble_eq_true rfl) (ztb_of k_265 rfl) d_Ho_neighbour_1 (fun _ _ _ h => h) (hs.get (t := 0) rfl) rfl ?_
    refine zo_iload_n (i := i_Ho_neighbour) (pc := 4) d_Ho_neighbour_4 rfl ?_
    refine zc_VN1 (i := i_Ho_neighbour) (pc := 5) 3 rfl m_Nr_find (ztb_of k_309 rfl) (ztb_of k_311 rfl) s_Nr_find d_Ho_neighbour_5 (Nat.le_of_ble_eq_true rfl) (Nat.le_of_ble_eq_true rfl) (Nat.le_of_ble_eq_true rfl) (Nat.le_of_ble_eq_true rfl) ((hs.pick 3 rfl).get (t := 0) rfl) (c_Nr_find (hs.pick 3 rfl) h2.1 (Nat.le_trans h2.2 (by decide)) ?_)
    rw [hf]
    refine zo_astore_n (i := i_Ho_neighbour) (pc := 8) d_Ho_neighbour_8 rfl (Nat.le_of_ble_eq_true rfl) ?_
    refine zo_aload_n (i := i_Ho_neighbour) (pc := 9) d_Ho_neighbour_9 rfl rfl ?_
    refine zo_ifnonnull (i := i_Ho_neighbour) (pc := 10) (tgt := 15) d_Ho_neighbour_10 (by decide) rfl (fun h10 => ?_) (fun h10 => False.elim (by first | exact absurd h10 ((by intro q; cases q)) | exact absurd ((by intro q; cases q)) h10))
    refine zo_aload_n (i := i_Ho_neighbour) (pc := 15) d_Ho_neighbour_15 rfl rfl ?_
    refine zo_getN (i := i_Ho_neighbour) (pc := 16) 2 2 rfl zok_Ne (Nat.le_of_ble_eq_true rfl) (ztb_of k_550 rfl) d_Ho_neighbour_16 (fun _ _ _ h => h) hse rfl ?_
    refine zo_bipush (i := i_Ho_neighbour) (pc := 19) (v := 8) d_Ho_neighbour_19 (by decide) ?_
    refine zo_aload_n (i := i_Ho_neighbour) (pc := 21) d_Ho_neighbour_21 rfl rfl ?_
    refine zo_getN (i := i_Ho_neighbour) (pc := 22) 2 1 rfl zok_Ne (Nat.le_of_ble_eq_true rfl) (ztb_of k_548 rfl) d_Ho_neighbour_22 (fun _ _ _ h => h) hse rfl ?_
    refine zo_imul (i := i_Ho_neighbour) (pc := 25) d_Ho_neighbour_25 ?_
    refine zo_iadd (i := i_Ho_neighbour) (pc := 26) d_Ho_neighbour_26 ?_
    refine zo_aload_n (i := i_Ho_neighbour) (pc := 27) d_Ho_neighbour_27 rfl rfl ?_
    refine zo_getN (i := i_Ho_neighbour) (pc := 28) 2 4 rfl zok_Ne (Nat.le_of_ble_eq_true rfl) (ztb_of k_555 rfl) d_Ho_neighbour_28 (fun _ _ _ h => h) hse rfl ?_
    refine zo_if_eq (i := i_Ho_neighbour) (pc := 31) (tgt := 40) d_Ho_neighbour_31 (by decide) (fun h31 => ?_) (fun h31 => ?_)
    · refine zo_iconst (i := i_Ho_neighbour) (pc := 40) (v := 0) d_Ho_neighbour_40 (by decide) ?_
      refine zo_iadd (i := i_Ho_neighbour) (pc := 41) d_Ho_neighbour_41 ?_
      refine zo_aload_n (i := i_Ho_neighbour) (pc := 42) d_Ho_neighbour_42 rfl rfl ?_
      refine zc_VN0 (i := i_Ho_neighbour) (pc := 43) 2 rfl m_Ne_hasWaiting (ztb_of k_332 rfl) (ztb_of k_334 rfl) s_Ne_hasWaiting d_Ho_neighbour_43 (Nat.le_of_ble_eq_true rfl) (Nat.le_of_ble_eq_true rfl) (Nat.le_of_ble_eq_true rfl) (Nat.le_of_ble_eq_true rfl) hse (c_Ne_hasWaiting hse ?_)
      refine zo_if_eq (i := i_Ho_neighbour) (pc := 46) (tgt := 55) d_Ho_neighbour_46 (by decide) (fun h46 => ?_) (fun h46 => ?_)
      · refine zo_iconst (i := i_Ho_neighbour) (pc := 55) (v := 0) d_Ho_neighbour_55 (by decide) ?_
        refine zo_iadd (i := i_Ho_neighbour) (pc := 56) d_Ho_neighbour_56 ?_
        refine zo_ireturn (i := i_Ho_neighbour) (pc := 57) hq d_Ho_neighbour_57 rfl (Nat.le_of_ble_eq_true rfl) (Nat.le_of_ble_eq_true rfl) ?_
        unfold nbT at k
        rw [hfs] at k
        replace k : post (some (.int (e.2.2.2.1 + 8 * e.2.2.1 + (if e.2.2.2.2.2.1 then 1024 else 0) + (if e.2.2.2.2.2.2 = 0 then 0 else 2048)))) ws := k
        rw [if_neg (by rw [zb_0.mp h31]; decide), if_pos (by rw [zb_0] at h46; simpa using h46)] at k
        exact k
      · refine zo_sipush (i := i_Ho_neighbour) (pc := 49) (v := 2048) d_Ho_neighbour_49 (by decide) ?_
        refine zo_goto (i := i_Ho_neighbour) (pc := 52) (tgt := 56) d_Ho_neighbour_52 (by decide) ?_
        refine zo_iadd (i := i_Ho_neighbour) (pc := 56) d_Ho_neighbour_56 ?_
        refine zo_ireturn (i := i_Ho_neighbour) (pc := 57) hq d_Ho_neighbour_57 rfl (Nat.le_of_ble_eq_true rfl) (Nat.le_of_ble_eq_true rfl) ?_
        unfold nbT at k
        rw [hfs] at k
        replace k : post (some (.int (e.2.2.2.1 + 8 * e.2.2.1 + (if e.2.2.2.2.2.1 then 1024 else 0) + (if e.2.2.2.2.2.2 = 0 then 0 else 2048)))) ws := k
        rw [if_neg (by rw [zb_0.mp h31]; decide), if_neg (by rw [zb_0] at h46; simpa using h46)] at k
        exact k
    · refine zo_sipush (i := i_Ho_neighbour) (pc := 34) (v := 1024) d_Ho_neighbour_34 (by decide) ?_
      refine zo_goto (i := i_Ho_neighbour) (pc := 37) (tgt := 41) d_Ho_neighbour_37 (by decide) ?_
      refine zo_iadd (i := i_Ho_neighbour) (pc := 41) d_Ho_neighbour_41 ?_
      refine zo_aload_n (i := i_Ho_neighbour) (pc := 42) d_Ho_neighbour_42 rfl rfl ?_
      refine zc_VN0 (i := i_Ho_neighbour) (pc := 43) 2 rfl m_Ne_hasWaiting (ztb_of k_332 rfl) (ztb_of k_334 rfl) s_Ne_hasWaiting d_Ho_neighbour_43 (Nat.le_of_ble_eq_true rfl) (Nat.le_of_ble_eq_true rfl) (Nat.le_of_ble_eq_true rfl) (Nat.le_of_ble_eq_true rfl) hse (c_Ne_hasWaiting hse ?_)
      refine zo_if_eq (i := i_Ho_neighbour) (pc := 46) (tgt := 55) d_Ho_neighbour_46 (by decide) (fun h46 => ?_) (fun h46 => ?_)
      · refine zo_iconst (i := i_Ho_neighbour) (pc := 55) (v := 0) d_Ho_neighbour_55 (by decide) ?_
        refine zo_iadd (i := i_Ho_neighbour) (pc := 56) d_Ho_neighbour_56 ?_
        refine zo_ireturn (i := i_Ho_neighbour) (pc := 57) hq d_Ho_neighbour_57 rfl (Nat.le_of_ble_eq_true rfl) (Nat.le_of_ble_eq_true rfl) ?_
        unfold nbT at k
        rw [hfs] at k
        replace k : post (some (.int (e.2.2.2.1 + 8 * e.2.2.1 + (if e.2.2.2.2.2.1 then 1024 else 0) + (if e.2.2.2.2.2.2 = 0 then 0 else 2048)))) ws := k
        rw [if_pos (by rw [zb_0, Bool.not_eq_false] at h31; exact h31), if_pos (by rw [zb_0] at h46; simpa using h46)] at k
        exact k
      · refine zo_sipush (i := i_Ho_neighbour) (pc := 49) (v := 2048) d_Ho_neighbour_49 (by decide) ?_
        refine zo_goto (i := i_Ho_neighbour) (pc := 52) (tgt := 56) d_Ho_neighbour_52 (by decide) ?_
        refine zo_iadd (i := i_Ho_neighbour) (pc := 56) d_Ho_neighbour_56 ?_
        refine zo_ireturn (i := i_Ho_neighbour) (pc := 57) hq d_Ho_neighbour_57 rfl (Nat.le_of_ble_eq_true rfl) (Nat.le_of_ble_eq_true rfl) ?_
        unfold nbT at k
        rw [hfs] at k
        replace k : post (some (.int (e.2.2.2.1 + 8 * e.2.2.1 + (if e.2.2.2.2.2.1 then 1024 else 0) + (if e.2.2.2.2.2.2 = 0 then 0 else 2048)))) ws := k
        rw [if_pos (by rw [zb_0, Bool.not_eq_false] at h31; exact h31), if_neg (by rw [zb_0] at h46; simpa using h46)] at k
        exact k
theorem c_Ho_isForHost {g : zG} {ws : va_W} {post : Option Value → va_W → Prop} {A : Nat → Nat} {q : hT} {R : va_W} (h : hH g A q R ws) {a : Int32} (k : post (some (.int (zb (forT q a)))) ws) : zC g i_Ho_isForHost [.ref (A 0), .int a] ws post := by
  refine zC.intro (by decide +kernel) rfl (Nat.le_of_ble_eq_true rfl) fun x0 hq => ?_
  obtain ⟨s, u, lo, ln, lr, lp, la, hd⟩ := q
  obtain ⟨ow, nb, ro, pf, pa, h1, h2, h3, h4, h5, rfl, rfl, rfl, rfl, rfl, h6, hs⟩ := h
  replace hs : zHas ws (hL g A s u ow nb ro pf pa hd R).flatten := hs
  have hfs := find_snd (fun e => decide (e.1 = a)) ow.2
  cases hf : ow.2.find? (fun e => decide (e.2.1 = a)) with
  | none =>
    rw [hf] at hfs
    refine zo_iload_n (i := i_Ho_isForHost) (pc := 0) d_Ho_isForHost_0 rfl ?_
    refine zo_ldc (i := i_Ho_isForHost) (pc := 1) d_Ho_isForHost_1 (ztb_of k_256 rfl) ?_
    refine zo_icmp_ne (i := i_Ho_isForHost) (pc := 3) (tgt := 8) d_Ho_isForHost_3 (by decide) (fun hA => ?_) (fun hA => ?_)
    · refine zo_aload_n (i := i_Ho_isForHost) (pc := 8) d_Ho_isForHost_8 rfl rfl ?_
      refine zo_get (i := i_Ho_isForHost) (pc := 9) 9 2 rfl zok_Ho (Nat.le_of_ble_eq_true rfl) (ztb_of k_264 rfl) d_Ho_isForHost_9 (fun _ _ _ h => h) (hs.get (t := 0) rfl) rfl ?_
      refine zo_iload_n (i := i_Ho_isForHost) (pc := 12) d_Ho_isForHost_12 rfl ?_
      refine zc_VN1 (i := i_Ho_isForHost) (pc := 13) 6 rfl m_Or_find (ztb_of k_637 rfl) (ztb_of k_639 rfl) s_Or_find d_Ho_isForHost_13 (Nat.le_of_ble_eq_true rfl) (Nat.le_of_ble_eq_true rfl) (Nat.le_of_ble_eq_true rfl) (Nat.le_of_ble_eq_true rfl) ((hs.pick 2 rfl).get (t := 0) rfl) (c_Or_find (hs.pick 2 rfl) h1.1 (Nat.le_trans h1.2 (by decide)) ?_)
      rw [hf]
      refine zo_astore_n (i := i_Ho_isForHost) (pc := 16) d_Ho_isForHost_16 rfl (Nat.le_of_ble_eq_true rfl) ?_
      refine zo_aload_n (i := i_Ho_isForHost) (pc := 17) d_Ho_isForHost_17 rfl rfl ?_
      refine zo_ifnull (i := i_Ho_isForHost) (pc := 18) (tgt := 32) d_Ho_isForHost_18 (by decide) rfl (fun h18 => ?_) (fun h18 => False.elim (by first | exact absurd h18 ((by rintro ⟨_, q⟩; cases q)) | exact absurd ((by rintro ⟨_, q⟩; cases q)) h18))
      refine zo_iconst (i := i_Ho_isForHost) (pc := 32) (v := 0) d_Ho_isForHost_32 (by decide) ?_
      refine zo_zreturn (i := i_Ho_isForHost) (pc := 33) hq d_Ho_isForHost_33 rfl rfl (Nat.le_of_ble_eq_true rfl) (Nat.le_of_ble_eq_true rfl) ?_
      unfold forT at k
      rw [hfs, decide_eq_false hA, Bool.false_or] at k
      exact k
    · refine zo_iconst (i := i_Ho_isForHost) (pc := 6) (v := 1) d_Ho_isForHost_6 (by decide) ?_
      refine zo_zreturn (i := i_Ho_isForHost) (pc := 7) hq d_Ho_isForHost_7 rfl rfl (Nat.le_of_ble_eq_true rfl) (Nat.le_of_ble_eq_true rfl) ?_
      unfold forT at k
      rw [decide_eq_true hA, Bool.true_or] at k
      exact k
  | some e =>
    rw [hf] at hfs
    obtain ⟨j, hj, hpj, hno⟩ := zfind_idx hf
    have hkey : e.2.1 = a := of_decide_eq_true hpj
    have hse := rw_el (hs.pick 2 rfl) hj
    refine zo_iload_n (i := i_Ho_isForHost) (pc := 0) d_Ho_isForHost_0 rfl ?_
    refine zo_ldc (i := i_Ho_isForHost) (pc := 1) d_Ho_isForHost_1 (ztb_of k_256 rfl) ?_
    refine zo_icmp_ne (i := i_Ho_isForHost) (pc := 3) (tgt := 8) d_Ho_isForHost_3 (by decide) (fun hA => ?_) (fun hA => ?_)
    · refine zo_aload_n (i := i_Ho_isForHost) (pc := 8) d_Ho_isForHost_8 rfl rfl ?_
      refine zo_get (i := i_Ho_isForHost) (pc := 9) 9 2 rfl zok_Ho (Nat.le_of_ble_eq_true rfl) (ztb_of k_264 rfl) d_Ho_isForHost_9 (fun _ _ _ h => h) (hs.get (t := 0) rfl) rfl ?_
      refine zo_iload_n (i := i_Ho_isForHost) (pc := 12) d_Ho_isForHost_12 rfl ?_
      refine zc_VN1 (i := i_Ho_isForHost) (pc := 13) 6 rfl m_Or_find (ztb_of k_637 rfl) (ztb_of k_639 rfl) s_Or_find d_Ho_isForHost_13 (Nat.le_of_ble_eq_true rfl) (Nat.le_of_ble_eq_true rfl) (Nat.le_of_ble_eq_true rfl) (Nat.le_of_ble_eq_true rfl) ((hs.pick 2 rfl).get (t := 0) rfl) (c_Or_find (hs.pick 2 rfl) h1.1 (Nat.le_trans h1.2 (by decide)) ?_)
      rw [hf]
      refine zo_astore_n (i := i_Ho_isForHost) (pc := 16) d_Ho_isForHost_16 rfl (Nat.le_of_ble_eq_true rfl) ?_
      refine zo_aload_n (i := i_Ho_isForHost) (pc := 17) d_Ho_isForHost_17 rfl rfl ?_
      refine zo_ifnull (i := i_Ho_isForHost) (pc := 18) (tgt := 32) d_Ho_isForHost_18 (by decide) rfl (fun h18 => False.elim (by first | exact absurd h18 ((by intro q; cases q)) | exact absurd ((by intro q; cases q)) h18)) (fun h18 => ?_)
      refine zo_aload_n (i := i_Ho_isForHost) (pc := 21) d_Ho_isForHost_21 rfl rfl ?_
      refine zc_VN0 (i := i_Ho_isForHost) (pc := 22) 5 rfl m_Oa_isUsable (ztb_of k_658 rfl) (ztb_of k_660 rfl) s_Oa_isUsable d_Ho_isForHost_22 (Nat.le_of_ble_eq_true rfl) (Nat.le_of_ble_eq_true rfl) (Nat.le_of_ble_eq_true rfl) (Nat.le_of_ble_eq_true rfl) hse (c_Oa_isUsable hse ?_)
      refine zo_if_eq (i := i_Ho_isForHost) (pc := 25) (tgt := 32) d_Ho_isForHost_25 (by decide) (fun h25 => ?_) (fun h25 => ?_)
      · refine zo_iconst (i := i_Ho_isForHost) (pc := 32) (v := 0) d_Ho_isForHost_32 (by decide) ?_
        refine zo_zreturn (i := i_Ho_isForHost) (pc := 33) hq d_Ho_isForHost_33 rfl rfl (Nat.le_of_ble_eq_true rfl) (Nat.le_of_ble_eq_true rfl) ?_
        unfold forT at k
        rw [hfs, decide_eq_false hA, Bool.false_or] at k
        replace k : post (some (.int (zb (zusable e.2.2.2.1)))) ws := k
        rw [zb_0] at h25
        rw [h25] at k
        exact k
      · refine zo_iconst (i := i_Ho_isForHost) (pc := 28) (v := 1) d_Ho_isForHost_28 (by decide) ?_
        refine zo_goto (i := i_Ho_isForHost) (pc := 29) (tgt := 33) d_Ho_isForHost_29 (by decide) ?_
        refine zo_zreturn (i := i_Ho_isForHost) (pc := 33) hq d_Ho_isForHost_33 rfl rfl (Nat.le_of_ble_eq_true rfl) (Nat.le_of_ble_eq_true rfl) ?_
        unfold forT at k
        rw [hfs, decide_eq_false hA, Bool.false_or] at k
        replace k : post (some (.int (zb (zusable e.2.2.2.1)))) ws := k
        rw [zb_0, Bool.not_eq_false] at h25
        rw [h25] at k
        exact k
    · refine zo_iconst (i := i_Ho_isForHost) (pc := 6) (v := 1) d_Ho_isForHost_6 (by decide) ?_
      refine zo_zreturn (i := i_Ho_isForHost) (pc := 7) hq d_Ho_isForHost_7 rfl rfl (Nat.le_of_ble_eq_true rfl) (Nat.le_of_ble_eq_true rfl) ?_
      unfold forT at k
      rw [decide_eq_true hA, Bool.true_or] at k
      exact k
theorem c_Ho_isOnLink {g : zG} {ws : va_W} {post : Option Value → va_W → Prop} {A : Nat → Nat} {q : hT} {R : va_W} (h : hH g A q R ws) {a : Int32} (k : post (some (.int (zb (onLinkT q a)))) ws) : zC g i_Ho_isOnLink [.ref (A 0), .int a] ws post := by
  refine zC.intro (by decide +kernel) rfl (Nat.le_of_ble_eq_true rfl) fun x0 hq => ?_
  obtain ⟨s, u, lo, ln, lr, lp, la, hd⟩ := q
  obtain ⟨ow, nb, ro, pf, pa, h1, h2, h3, h4, h5, rfl, rfl, rfl, rfl, rfl, h6, hs⟩ := h
  replace hs : zHas ws (hL g A s u ow nb ro pf pa hd R).flatten := hs
  have hfs := find_snd (fun e => decide (e.1 = a / 256)) pf.2
  cases hf : pf.2.find? (fun e => decide (e.2.1 = a / 256)) with
  | none =>
    rw [hf] at hfs
    refine zo_iload_n (i := i_Ho_isOnLink) (pc := 0) d_Ho_isOnLink_0 rfl ?_
    refine zc_S1 (i := i_Ho_isOnLink) (pc := 1) m_Ho_isLocal (ztb_of k_666 rfl) (ztb_of k_667 rfl) d_Ho_isOnLink_1 (Nat.le_of_ble_eq_true rfl) (Nat.le_of_ble_eq_true rfl) (Nat.le_of_ble_eq_true rfl) (Nat.le_of_ble_eq_true rfl) (c_Ho_isLocal ?_)
    refine zo_if_ne (i := i_Ho_isOnLink) (pc := 4) (tgt := 21) d_Ho_isOnLink_4 (by decide) (fun hA => ?_) (fun hA => ?_)
    · refine zo_iconst (i := i_Ho_isOnLink) (pc := 21) (v := 1) d_Ho_isOnLink_21 (by decide) ?_
      refine zo_goto (i := i_Ho_isOnLink) (pc := 22) (tgt := 26) d_Ho_isOnLink_22 (by decide) ?_
      refine zo_zreturn (i := i_Ho_isOnLink) (pc := 26) hq d_Ho_isOnLink_26 rfl rfl (Nat.le_of_ble_eq_true rfl) (Nat.le_of_ble_eq_true rfl) ?_
      unfold onLinkT at k
      rw [zb_0, Bool.not_eq_false] at hA
      rw [hA, Bool.true_or] at k
      exact k
    · refine zo_aload_n (i := i_Ho_isOnLink) (pc := 7) d_Ho_isOnLink_7 rfl rfl ?_
      refine zo_get (i := i_Ho_isOnLink) (pc := 8) 9 5 rfl zok_Ho (Nat.le_of_ble_eq_true rfl) (ztb_of k_267 rfl) d_Ho_isOnLink_8 (fun _ _ _ h => h) (hs.get (t := 0) rfl) rfl ?_
      refine zo_iload_n (i := i_Ho_isOnLink) (pc := 11) d_Ho_isOnLink_11 rfl ?_
      refine zc_S1 (i := i_Ho_isOnLink) (pc := 12) m_Ho_prefixOf (ztb_of k_655 rfl) (ztb_of k_656 rfl) d_Ho_isOnLink_12 (Nat.le_of_ble_eq_true rfl) (Nat.le_of_ble_eq_true rfl) (Nat.le_of_ble_eq_true rfl) (Nat.le_of_ble_eq_true rfl) (c_Ho_prefixOf ?_)
      refine zc_VN1 (i := i_Ho_isOnLink) (pc := 15) 8 rfl m_Tr_find (ztb_of k_341 rfl) (ztb_of k_343 rfl) s_Tr_find d_Ho_isOnLink_15 (Nat.le_of_ble_eq_true rfl) (Nat.le_of_ble_eq_true rfl) (Nat.le_of_ble_eq_true rfl) (Nat.le_of_ble_eq_true rfl) ((hs.pick 5 rfl).get (t := 0) rfl) (c_Tr_find (hs.pick 5 rfl) h4.1 (Nat.le_trans h4.2 (by decide)) ?_)
      rw [hf]
      refine zo_ifnull (i := i_Ho_isOnLink) (pc := 18) (tgt := 25) d_Ho_isOnLink_18 (by decide) rfl (fun h18 => ?_) (fun h18 => False.elim (by first | exact absurd h18 ((by rintro ⟨_, q⟩; cases q)) | exact absurd ((by rintro ⟨_, q⟩; cases q)) h18))
      refine zo_iconst (i := i_Ho_isOnLink) (pc := 25) (v := 0) d_Ho_isOnLink_25 (by decide) ?_
      refine zo_zreturn (i := i_Ho_isOnLink) (pc := 26) hq d_Ho_isOnLink_26 rfl rfl (Nat.le_of_ble_eq_true rfl) (Nat.le_of_ble_eq_true rfl) ?_
      unfold onLinkT at k
      rw [zb_0] at hA
      rw [hfs, hA] at k
      exact k
  | some e =>
    rw [hf] at hfs
    obtain ⟨j, hj, hpj, hno⟩ := zfind_idx hf
    have hkey : e.2.1 = a / 256 := of_decide_eq_true hpj
    have hse := rw_el (hs.pick 5 rfl) hj
    refine zo_iload_n (i := i_Ho_isOnLink) (pc := 0) d_Ho_isOnLink_0 rfl ?_
    refine zc_S1 (i := i_Ho_isOnLink) (pc := 1) m_Ho_isLocal (ztb_of k_666 rfl) (ztb_of k_667 rfl) d_Ho_isOnLink_1 (Nat.le_of_ble_eq_true rfl) (Nat.le_of_ble_eq_true rfl) (Nat.le_of_ble_eq_true rfl) (Nat.le_of_ble_eq_true rfl) (c_Ho_isLocal ?_)
    refine zo_if_ne (i := i_Ho_isOnLink) (pc := 4) (tgt := 21) d_Ho_isOnLink_4 (by decide) (fun hA => ?_) (fun hA => ?_)
    · refine zo_iconst (i := i_Ho_isOnLink) (pc := 21) (v := 1) d_Ho_isOnLink_21 (by decide) ?_
      refine zo_goto (i := i_Ho_isOnLink) (pc := 22) (tgt := 26) d_Ho_isOnLink_22 (by decide) ?_
      refine zo_zreturn (i := i_Ho_isOnLink) (pc := 26) hq d_Ho_isOnLink_26 rfl rfl (Nat.le_of_ble_eq_true rfl) (Nat.le_of_ble_eq_true rfl) ?_
      unfold onLinkT at k
      rw [zb_0, Bool.not_eq_false] at hA
      rw [hA, Bool.true_or] at k
      exact k
    · refine zo_aload_n (i := i_Ho_isOnLink) (pc := 7) d_Ho_isOnLink_7 rfl rfl ?_
      refine zo_get (i := i_Ho_isOnLink) (pc := 8) 9 5 rfl zok_Ho (Nat.le_of_ble_eq_true rfl) (ztb_of k_267 rfl) d_Ho_isOnLink_8 (fun _ _ _ h => h) (hs.get (t := 0) rfl) rfl ?_
      refine zo_iload_n (i := i_Ho_isOnLink) (pc := 11) d_Ho_isOnLink_11 rfl ?_
      refine zc_S1 (i := i_Ho_isOnLink) (pc := 12) m_Ho_prefixOf (ztb_of k_655 rfl) (ztb_of k_656 rfl) d_Ho_isOnLink_12 (Nat.le_of_ble_eq_true rfl) (Nat.le_of_ble_eq_true rfl) (Nat.le_of_ble_eq_true rfl) (Nat.le_of_ble_eq_true rfl) (c_Ho_prefixOf ?_)
      refine zc_VN1 (i := i_Ho_isOnLink) (pc := 15) 8 rfl m_Tr_find (ztb_of k_341 rfl) (ztb_of k_343 rfl) s_Tr_find d_Ho_isOnLink_15 (Nat.le_of_ble_eq_true rfl) (Nat.le_of_ble_eq_true rfl) (Nat.le_of_ble_eq_true rfl) (Nat.le_of_ble_eq_true rfl) ((hs.pick 5 rfl).get (t := 0) rfl) (c_Tr_find (hs.pick 5 rfl) h4.1 (Nat.le_trans h4.2 (by decide)) ?_)
      rw [hf]
      refine zo_ifnull (i := i_Ho_isOnLink) (pc := 18) (tgt := 25) d_Ho_isOnLink_18 (by decide) rfl (fun h18 => False.elim (by first | exact absurd h18 ((by intro q; cases q)) | exact absurd ((by intro q; cases q)) h18)) (fun h18 => ?_)
      refine zo_iconst (i := i_Ho_isOnLink) (pc := 21) (v := 1) d_Ho_isOnLink_21 (by decide) ?_
      refine zo_goto (i := i_Ho_isOnLink) (pc := 22) (tgt := 26) d_Ho_isOnLink_22 (by decide) ?_
      refine zo_zreturn (i := i_Ho_isOnLink) (pc := 26) hq d_Ho_isOnLink_26 rfl rfl (Nat.le_of_ble_eq_true rfl) (Nat.le_of_ble_eq_true rfl) ?_
      unfold onLinkT at k
      rw [hfs] at k
      replace k : post (some (.int (zb (zlocal a || true)))) ws := k
      rw [Bool.or_true] at k
      exact k
theorem c_Ho_hearOnLink {g : zG} {ws : va_W} {post : Option Value → va_W → Prop} {A : Nat → Nat} {q : hT} {R : va_W} (h : hH g A q R ws) {p v : Int32} (k : ∀ w, hH g A (hearOnLinkT q p v) R w → post none w) : zC g i_Ho_hearOnLink [.ref (A 0), .int p, .int v] ws post := by
  refine zC.intro (by decide +kernel) rfl (Nat.le_of_ble_eq_true rfl) fun x0 hq => ?_
  obtain ⟨s, u, lo, ln, lr, lp, la, hd⟩ := q
  obtain ⟨ow, nb, ro, pf, pa, h1, h2, h3, h4, h5, rfl, rfl, rfl, rfl, rfl, h6, hs⟩ := h
  replace hs : zHas ws (hL g A s u ow nb ro pf pa hd R).flatten := hs
  refine zo_iload_n (i := i_Ho_hearOnLink) (pc := 0) d_Ho_hearOnLink_0 rfl ?_
  refine zo_if_ne (i := i_Ho_hearOnLink) (pc := 1) (tgt := 15) d_Ho_hearOnLink_1 (by decide) (fun h1v => ?_) (fun h1v => ?_)
  · refine zo_aload_n (i := i_Ho_hearOnLink) (pc := 15) d_Ho_hearOnLink_15 rfl rfl ?_
    refine zo_get (i := i_Ho_hearOnLink) (pc := 16) 9 5 rfl zok_Ho (Nat.le_of_ble_eq_true rfl) (ztb_of k_267 rfl) d_Ho_hearOnLink_16 (fun _ _ _ h => h) (hs.get (t := 0) rfl) rfl ?_
    refine zo_iload_n (i := i_Ho_hearOnLink) (pc := 19) d_Ho_hearOnLink_19 rfl ?_
    refine zo_aload_n (i := i_Ho_hearOnLink) (pc := 20) d_Ho_hearOnLink_20 rfl rfl ?_
    refine zo_iload_n (i := i_Ho_hearOnLink) (pc := 21) d_Ho_hearOnLink_21 rfl ?_
    refine zc_V1 (i := i_Ho_hearOnLink) (pc := 22) 9 rfl m_Ho_endOf (ztb_of k_588 rfl) (ztb_of k_590 rfl) s_Ho_endOf d_Ho_hearOnLink_22 (Nat.le_of_ble_eq_true rfl) (Nat.le_of_ble_eq_true rfl) (Nat.le_of_ble_eq_true rfl) (Nat.le_of_ble_eq_true rfl) (hs.get (t := 0) rfl) (c_Ho_endOf (hs.get (t := 0) rfl) ?_)
    refine zo_iconst (i := i_Ho_hearOnLink) (pc := 25) (v := 0) d_Ho_hearOnLink_25 (by decide) ?_
    refine zc_VN3 (i := i_Ho_hearOnLink) (pc := 26) 8 rfl m_Tr_keep (ztb_of k_592 rfl) (ztb_of k_594 rfl) s_Tr_keep d_Ho_hearOnLink_26 (Nat.le_of_ble_eq_true rfl) (Nat.le_of_ble_eq_true rfl) (Nat.le_of_ble_eq_true rfl) (Nat.le_of_ble_eq_true rfl) ((hs.pick 5 rfl).get (t := 0) rfl) (c_tr_keep (n := 4) (hs.pick 5 rfl) h4 rfl (by decide) (by decide) fun y' ws h4' e4 hs => ?_)
    replace hs : zHas ws (hL g A s u ow nb ro y' pa hd R).flatten := zHas.back (cs := hL g A s u ow nb ro pf pa hd R) 5 rfl hs
    refine zo_return (i := i_Ho_hearOnLink) (pc := 29) hq d_Ho_hearOnLink_29 rfl (Nat.le_of_ble_eq_true rfl) (Nat.le_of_ble_eq_true rfl) ?_
    rw [hearOnLinkT, if_neg h1v] at k
    exact k ws ⟨_, _, _, _, _, h1, h2, h3, h4', h5, rfl, rfl, rfl, e4, rfl, h6, hs⟩
  · refine zo_aload_n (i := i_Ho_hearOnLink) (pc := 4) d_Ho_hearOnLink_4 rfl rfl ?_
    refine zo_get (i := i_Ho_hearOnLink) (pc := 5) 9 5 rfl zok_Ho (Nat.le_of_ble_eq_true rfl) (ztb_of k_267 rfl) d_Ho_hearOnLink_5 (fun _ _ _ h => h) (hs.get (t := 0) rfl) rfl ?_
    refine zo_iload_n (i := i_Ho_hearOnLink) (pc := 8) d_Ho_hearOnLink_8 rfl ?_
    refine zc_VN1 (i := i_Ho_hearOnLink) (pc := 9) 8 rfl m_Tr_drop (ztb_of k_584 rfl) (ztb_of k_586 rfl) s_Tr_drop d_Ho_hearOnLink_9 (Nat.le_of_ble_eq_true rfl) (Nat.le_of_ble_eq_true rfl) (Nat.le_of_ble_eq_true rfl) (Nat.le_of_ble_eq_true rfl) ((hs.pick 5 rfl).get (t := 0) rfl) (c_tr_drop (hs.pick 5 rfl) h4 (by decide) fun y' ws h4' e4 hs => ?_)
    replace hs : zHas ws (hL g A s u ow nb ro y' pa hd R).flatten := zHas.back (cs := hL g A s u ow nb ro pf pa hd R) 5 rfl hs
    refine zo_goto (i := i_Ho_hearOnLink) (pc := 12) (tgt := 29) d_Ho_hearOnLink_12 (by decide) ?_
    refine zo_return (i := i_Ho_hearOnLink) (pc := 29) hq d_Ho_hearOnLink_29 rfl (Nat.le_of_ble_eq_true rfl) (Nat.le_of_ble_eq_true rfl) ?_
    rw [hearOnLinkT, if_pos h1v] at k
    exact k ws ⟨_, _, _, _, _, h1, h2, h3, h4', h5, rfl, rfl, rfl, e4, rfl, h6, hs⟩
theorem c_Ho_hearForm {g : zG} {ws : va_W} {post : Option Value → va_W → Prop} {A : Nat → Nat} {q : hT} {R : va_W} (h : hH g A q R ws) {p v r : Int32} (k : ∀ w, hH g A (hearFormT q p v r) R w → post none w) : zC g i_Ho_hearForm [.ref (A 0), .int p, .int v, .int r] ws post := by
  refine zC.intro (by decide +kernel) rfl (Nat.le_of_ble_eq_true rfl) fun x0 hq => ?_
  obtain ⟨s, u, lo, ln, lr, lp, la, hd⟩ := q
  obtain ⟨ow, nb, ro, pf, pa, h1, h2, h3, h4, h5, rfl, rfl, rfl, rfl, rfl, h6, hs⟩ := h
  replace hs : zHas ws (hL g A s u ow nb ro pf pa hd R).flatten := hs
  have hfs := find_snd (fun e => decide (e.1 = 256 * p + s.1)) ow.2
  cases hf : ow.2.find? (fun e => decide (e.2.1 = 256 * p + s.1)) with
  | none =>
    rw [hf] at hfs
    refine zo_aload_n (i := i_Ho_hearForm) (pc := 0) d_Ho_hearForm_0 rfl rfl ?_
    refine zo_get (i := i_Ho_hearForm) (pc := 1) 9 2 rfl zok_Ho (Nat.le_of_ble_eq_true rfl) (ztb_of k_264 rfl) d_Ho_hearForm_1 (fun _ _ _ h => h) (hs.get (t := 0) rfl) rfl ?_
    refine zo_iload_n (i := i_Ho_hearForm) (pc := 4) d_Ho_hearForm_4 rfl ?_
    refine zo_aload_n (i := i_Ho_hearForm) (pc := 5) d_Ho_hearForm_5 rfl rfl ?_
    refine zo_get (i := i_Ho_hearForm) (pc := 6) 9 0 rfl zok_Ho (Nat.le_of_ble_eq_true rfl) (ztb_of k_262 rfl) d_Ho_hearForm_6 (fun _ _ _ h => h) (hs.get (t := 0) rfl) rfl ?_
    refine zc_S2 (i := i_Ho_hearForm) (pc := 9) m_Ho_addressOf (ztb_of k_160 rfl) (ztb_of k_161 rfl) d_Ho_hearForm_9 (Nat.le_of_ble_eq_true rfl) (Nat.le_of_ble_eq_true rfl) (Nat.le_of_ble_eq_true rfl) (Nat.le_of_ble_eq_true rfl) (c_Ho_addressOf ?_)
    refine zc_VN1 (i := i_Ho_hearForm) (pc := 12) 6 rfl m_Or_find (ztb_of k_637 rfl) (ztb_of k_639 rfl) s_Or_find d_Ho_hearForm_12 (Nat.le_of_ble_eq_true rfl) (Nat.le_of_ble_eq_true rfl) (Nat.le_of_ble_eq_true rfl) (Nat.le_of_ble_eq_true rfl) ((hs.pick 2 rfl).get (t := 0) rfl) (c_Or_find (hs.pick 2 rfl) h1.1 (Nat.le_trans h1.2 (by decide)) ?_)
    rw [hf]
    refine zo_astore (i := i_Ho_hearForm) (pc := 15) d_Ho_hearForm_15 rfl (Nat.le_of_ble_eq_true rfl) ?_
    refine zo_aload (i := i_Ho_hearForm) (pc := 17) d_Ho_hearForm_17 rfl rfl ?_
    refine zo_ifnonnull (i := i_Ho_hearForm) (pc := 19) (tgt := 55) d_Ho_hearForm_19 (by decide) rfl (fun h19 => False.elim (by first | exact absurd h19 ((by rintro ⟨_, q⟩; cases q)) | exact absurd ((by rintro ⟨_, q⟩; cases q)) h19)) (fun h19 => ?_)
    refine zo_iload_n (i := i_Ho_hearForm) (pc := 22) d_Ho_hearForm_22 rfl ?_
    refine zo_if_eq (i := i_Ho_hearForm) (pc := 23) (tgt := 72) d_Ho_hearForm_23 (by decide) (fun h23 => ?_) (fun h23 => ?_)
    · refine zo_return (i := i_Ho_hearForm) (pc := 72) hq d_Ho_hearForm_72 rfl (Nat.le_of_ble_eq_true rfl) (Nat.le_of_ble_eq_true rfl) ?_
      unfold hearFormT at k
      rw [hfs] at k
      replace k : ∀ w, hH g A (if ¬ v = 0 ∧ (ow.2.map Prod.snd).length < 5 then formT (s, u, ow.2.map Prod.snd, nb.2.map Prod.snd, ro.2.map Prod.snd, pf.2.map Prod.snd, pa.2.map Prod.snd, hd) p (zend s.2.1 v) (zend s.2.1 r) else (s, u, ow.2.map Prod.snd, nb.2.map Prod.snd, ro.2.map Prod.snd, pf.2.map Prod.snd, pa.2.map Prod.snd, hd)) R w → post none w := k
      have hl5 := h1.2
      rw [if_neg (fun q => q.1 h23)] at k
      exact k ws ⟨_, _, _, _, _, h1, h2, h3, h4, h5, rfl, rfl, rfl, rfl, rfl, h6, hs⟩
    · refine zo_aload_n (i := i_Ho_hearForm) (pc := 26) d_Ho_hearForm_26 rfl rfl ?_
      refine zo_get (i := i_Ho_hearForm) (pc := 27) 9 2 rfl zok_Ho (Nat.le_of_ble_eq_true rfl) (ztb_of k_264 rfl) d_Ho_hearForm_27 (fun _ _ _ h => h) (hs.get (t := 0) rfl) rfl ?_
      refine zc_VN0 (i := i_Ho_hearForm) (pc := 30) 6 rfl m_Or_length (ztb_of k_453 rfl) (ztb_of k_455 rfl) s_Or_length d_Ho_hearForm_30 (Nat.le_of_ble_eq_true rfl) (Nat.le_of_ble_eq_true rfl) (Nat.le_of_ble_eq_true rfl) (Nat.le_of_ble_eq_true rfl) ((hs.pick 2 rfl).get (t := 0) rfl) (c_Or_length (hs.pick 2 rfl) h1.1 (Nat.le_trans h1.2 (by decide)) ?_)
      refine zo_iconst (i := i_Ho_hearForm) (pc := 33) (v := 5) d_Ho_hearForm_33 (by decide) ?_
      refine zo_icmp_ge (i := i_Ho_hearForm) (pc := 34) (tgt := 72) d_Ho_hearForm_34 (by decide) (fun h34 => ?_) (fun h34 => ?_)
      · refine zo_return (i := i_Ho_hearForm) (pc := 72) hq d_Ho_hearForm_72 rfl (Nat.le_of_ble_eq_true rfl) (Nat.le_of_ble_eq_true rfl) ?_
        unfold hearFormT at k
        rw [hfs] at k
        replace k : ∀ w, hH g A (if ¬ v = 0 ∧ (ow.2.map Prod.snd).length < 5 then formT (s, u, ow.2.map Prod.snd, nb.2.map Prod.snd, ro.2.map Prod.snd, pf.2.map Prod.snd, pa.2.map Prod.snd, hd) p (zend s.2.1 v) (zend s.2.1 r) else (s, u, ow.2.map Prod.snd, nb.2.map Prod.snd, ro.2.map Prod.snd, pf.2.map Prod.snd, pa.2.map Prod.snd, hd)) R w → post none w := k
        have hl5 := h1.2
        rw [if_neg (fun q => nI_ge (by rw [List.length_map] at q; exact q.2) (by decide) h34)] at k
        exact k ws ⟨_, _, _, _, _, h1, h2, h3, h4, h5, rfl, rfl, rfl, rfl, rfl, h6, hs⟩
      · refine zo_aload_n (i := i_Ho_hearForm) (pc := 37) d_Ho_hearForm_37 rfl rfl ?_
        refine zo_iload_n (i := i_Ho_hearForm) (pc := 38) d_Ho_hearForm_38 rfl ?_
        refine zo_aload_n (i := i_Ho_hearForm) (pc := 39) d_Ho_hearForm_39 rfl rfl ?_
        refine zo_iload_n (i := i_Ho_hearForm) (pc := 40) d_Ho_hearForm_40 rfl ?_
        refine zc_V1 (i := i_Ho_hearForm) (pc := 41) 9 rfl m_Ho_endOf (ztb_of k_588 rfl) (ztb_of k_590 rfl) s_Ho_endOf d_Ho_hearForm_41 (Nat.le_of_ble_eq_true rfl) (Nat.le_of_ble_eq_true rfl) (Nat.le_of_ble_eq_true rfl) (Nat.le_of_ble_eq_true rfl) (hs.get (t := 0) rfl) (c_Ho_endOf (hs.get (t := 0) rfl) ?_)
        refine zo_aload_n (i := i_Ho_hearForm) (pc := 44) d_Ho_hearForm_44 rfl rfl ?_
        refine zo_iload_n (i := i_Ho_hearForm) (pc := 45) d_Ho_hearForm_45 rfl ?_
        refine zc_V1 (i := i_Ho_hearForm) (pc := 46) 9 rfl m_Ho_endOf (ztb_of k_588 rfl) (ztb_of k_590 rfl) s_Ho_endOf d_Ho_hearForm_46 (Nat.le_of_ble_eq_true rfl) (Nat.le_of_ble_eq_true rfl) (Nat.le_of_ble_eq_true rfl) (Nat.le_of_ble_eq_true rfl) (hs.get (t := 0) rfl) (c_Ho_endOf (hs.get (t := 0) rfl) ?_)
        refine zc_V3 (i := i_Ho_hearForm) (pc := 49) 9 rfl m_Ho_form (ztb_of k_154 rfl) (ztb_of k_156 rfl) s_Ho_form d_Ho_hearForm_49 (Nat.le_of_ble_eq_true rfl) (Nat.le_of_ble_eq_true rfl) (Nat.le_of_ble_eq_true rfl) (Nat.le_of_ble_eq_true rfl) (hs.get (t := 0) rfl) (c_Ho_form h1 hs fun b d' m' ws hs => ?_)
        refine zo_goto (i := i_Ho_hearForm) (pc := 52) (tgt := 72) d_Ho_hearForm_52 (by decide) ?_
        refine zo_return (i := i_Ho_hearForm) (pc := 72) hq d_Ho_hearForm_72 rfl (Nat.le_of_ble_eq_true rfl) (Nat.le_of_ble_eq_true rfl) ?_
        unfold hearFormT at k
        rw [hfs] at k
        replace k : ∀ w, hH g A (if ¬ v = 0 ∧ (ow.2.map Prod.snd).length < 5 then formT (s, u, ow.2.map Prod.snd, nb.2.map Prod.snd, ro.2.map Prod.snd, pf.2.map Prod.snd, pa.2.map Prod.snd, hd) p (zend s.2.1 v) (zend s.2.1 r) else (s, u, ow.2.map Prod.snd, nb.2.map Prod.snd, ro.2.map Prod.snd, pf.2.map Prod.snd, pa.2.map Prod.snd, hd)) R w → post none w := k
        have hl5 := h1.2
        have hlt : ow.2.length < 5 := Nat.not_le.mp fun q => h34 (nI_le q (by omega))
        rw [if_pos ⟨h23, by rw [List.length_map]; exact hlt⟩] at k
        exact k ws ⟨_, _, _, _, _, (hok_add hlt), h2, h3, h4, h5, (by rw [List.map_append]; rfl), rfl, rfl, rfl, rfl, h6, hs⟩
  | some e =>
    rw [hf] at hfs
    obtain ⟨j, hj, hpj, hno⟩ := zfind_idx hf
    have hkey : e.2.1 = 256 * p + s.1 := of_decide_eq_true hpj
    have hse := rw_el (hs.pick 2 rfl) hj
    refine zo_aload_n (i := i_Ho_hearForm) (pc := 0) d_Ho_hearForm_0 rfl rfl ?_
    refine zo_get (i := i_Ho_hearForm) (pc := 1) 9 2 rfl zok_Ho (Nat.le_of_ble_eq_true rfl) (ztb_of k_264 rfl) d_Ho_hearForm_1 (fun _ _ _ h => h) (hs.get (t := 0) rfl) rfl ?_
    refine zo_iload_n (i := i_Ho_hearForm) (pc := 4) d_Ho_hearForm_4 rfl ?_
    refine zo_aload_n (i := i_Ho_hearForm) (pc := 5) d_Ho_hearForm_5 rfl rfl ?_
    refine zo_get (i := i_Ho_hearForm) (pc := 6) 9 0 rfl zok_Ho (Nat.le_of_ble_eq_true rfl) (ztb_of k_262 rfl) d_Ho_hearForm_6 (fun _ _ _ h => h) (hs.get (t := 0) rfl) rfl ?_
    refine zc_S2 (i := i_Ho_hearForm) (pc := 9) m_Ho_addressOf (ztb_of k_160 rfl) (ztb_of k_161 rfl) d_Ho_hearForm_9 (Nat.le_of_ble_eq_true rfl) (Nat.le_of_ble_eq_true rfl) (Nat.le_of_ble_eq_true rfl) (Nat.le_of_ble_eq_true rfl) (c_Ho_addressOf ?_)
    refine zc_VN1 (i := i_Ho_hearForm) (pc := 12) 6 rfl m_Or_find (ztb_of k_637 rfl) (ztb_of k_639 rfl) s_Or_find d_Ho_hearForm_12 (Nat.le_of_ble_eq_true rfl) (Nat.le_of_ble_eq_true rfl) (Nat.le_of_ble_eq_true rfl) (Nat.le_of_ble_eq_true rfl) ((hs.pick 2 rfl).get (t := 0) rfl) (c_Or_find (hs.pick 2 rfl) h1.1 (Nat.le_trans h1.2 (by decide)) ?_)
    rw [hf]
    refine zo_astore (i := i_Ho_hearForm) (pc := 15) d_Ho_hearForm_15 rfl (Nat.le_of_ble_eq_true rfl) ?_
    refine zo_aload (i := i_Ho_hearForm) (pc := 17) d_Ho_hearForm_17 rfl rfl ?_
    refine zo_ifnonnull (i := i_Ho_hearForm) (pc := 19) (tgt := 55) d_Ho_hearForm_19 (by decide) rfl (fun h19 => ?_) (fun h19 => False.elim (by first | exact absurd h19 ((by intro q; cases q)) | exact absurd ((by intro q; cases q)) h19))
    refine zo_aload (i := i_Ho_hearForm) (pc := 55) d_Ho_hearForm_55 rfl rfl ?_
    refine zo_getN (i := i_Ho_hearForm) (pc := 57) 5 2 rfl zok_Oa (Nat.le_of_ble_eq_true rfl) (ztb_of k_174 rfl) d_Ho_hearForm_57 (fun _ _ _ h => h) hse rfl ?_
    refine zo_iconst (i := i_Ho_hearForm) (pc := 60) (v := 4) d_Ho_hearForm_60 (by decide) ?_
    refine zo_icmp_eq (i := i_Ho_hearForm) (pc := 61) (tgt := 72) d_Ho_hearForm_61 (by decide) (fun h61 => ?_) (fun h61 => ?_)
    · refine zo_return (i := i_Ho_hearForm) (pc := 72) hq d_Ho_hearForm_72 rfl (Nat.le_of_ble_eq_true rfl) (Nat.le_of_ble_eq_true rfl) ?_
      unfold hearFormT at k
      rw [hfs] at k
      replace k : ∀ w, hH g A (if e.2.2.2.1 = 4 then (s, u, ow.2.map Prod.snd, nb.2.map Prod.snd, ro.2.map Prod.snd, pf.2.map Prod.snd, pa.2.map Prod.snd, hd) else tO (s, u, ow.2.map Prod.snd, nb.2.map Prod.snd, ro.2.map Prod.snd, pf.2.map Prod.snd, pa.2.map Prod.snd, hd) (zset1 (fun e => decide (e.1 = 256 * p + s.1)) (oaR s.2.1 v r) (ow.2.map Prod.snd))) R w → post none w := k
      rw [if_pos h61] at k
      exact k ws ⟨_, _, _, _, _, h1, h2, h3, h4, h5, rfl, rfl, rfl, rfl, rfl, h6, hs⟩
    · refine zo_aload_n (i := i_Ho_hearForm) (pc := 64) d_Ho_hearForm_64 rfl rfl ?_
      refine zo_aload (i := i_Ho_hearForm) (pc := 65) d_Ho_hearForm_65 rfl rfl ?_
      refine zo_iload_n (i := i_Ho_hearForm) (pc := 67) d_Ho_hearForm_67 rfl ?_
      refine zo_iload_n (i := i_Ho_hearForm) (pc := 68) d_Ho_hearForm_68 rfl ?_
      refine zc_V3 (i := i_Ho_hearForm) (pc := 69) 9 rfl m_Ho_renew (ztb_of k_641 rfl) (ztb_of k_643 rfl) s_Ho_renew d_Ho_hearForm_69 (Nat.le_of_ble_eq_true rfl) (Nat.le_of_ble_eq_true rfl) (Nat.le_of_ble_eq_true rfl) (Nat.le_of_ble_eq_true rfl) (hs.get (t := 0) rfl) (c_Ho_renew (hv_ow hs hj) fun ws hs => ?_)
      replace hs := hu_ow hj hs
      refine zo_return (i := i_Ho_hearForm) (pc := 72) hq d_Ho_hearForm_72 rfl (Nat.le_of_ble_eq_true rfl) (Nat.le_of_ble_eq_true rfl) ?_
      unfold hearFormT at k
      rw [hfs] at k
      replace k : ∀ w, hH g A (if e.2.2.2.1 = 4 then (s, u, ow.2.map Prod.snd, nb.2.map Prod.snd, ro.2.map Prod.snd, pf.2.map Prod.snd, pa.2.map Prod.snd, hd) else tO (s, u, ow.2.map Prod.snd, nb.2.map Prod.snd, ro.2.map Prod.snd, pf.2.map Prod.snd, pa.2.map Prod.snd, hd) (zset1 (fun e => decide (e.1 = 256 * p + s.1)) (oaR s.2.1 v r) (ow.2.map Prod.snd))) R w → post none w := k
      rw [if_neg h61] at k
      exact k ws ⟨_, _, _, _, _, (hok_set h1), h2, h3, h4, h5, (set_snd (p := fun e => decide (e.1 = 256 * p + s.1)) hno hj hpj), rfl, rfl, rfl, rfl, h6, hs⟩
