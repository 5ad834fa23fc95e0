/-! The host: ticks, forming, prefixes (walks by a program, gen22.py). -/
section ZHost3
theorem zHas.pickN {ws : va_W} {cs : List va_W} {q : Nat × va_E} (h : zHas ws (q :: cs.flatten)) (k : Nat) {c : va_W} (hk : cs[k]? = some c) : zHas ws (c ++ (q :: (cs.eraseIdx k).flatten)) := h.perm ((List.Perm.cons q (zpick_perm cs k c hk)).trans List.perm_middle.symm)
theorem zset_self {α : Type} {l : List α} {j : Nat} {e : α} (h : l[j]? = some e) : l.set j e = l := by
  obtain ⟨hi, rfl⟩ := List.getElem?_eq_some_iff.mp h
  exact List.set_getElem_self hi
theorem zlast {α : Type} (l : List α) (e : α) : (l ++ [e])[l.length]? = some e := by simp
/-- entries with an end, without their addresses -/
def tkeep (n : Nat) (x : zTD) (l : List zTD) : List zTD :=
  match l.find? (fun e => decide (e.1 = x.1)) with
  | some _ => zset1 (fun e => decide (e.1 = x.1)) (fun _ => x) l
  | none => zcap n l ++ [x]
theorem zset1_snd (a : Int32) (x : zTD) : ∀ (l : List (Nat × zTD)), (zset1 (fun e => decide (e.2.1 = a)) (fun e => (e.1, x)) l).map Prod.snd = zset1 (fun e => decide (e.1 = a)) (fun _ => x) (l.map Prod.snd)
  | [] => rfl
  | e :: r => by
    rw [List.map_cons, zset1, zset1]
    by_cases h : e.2.1 = a
    · rw [if_pos (decide_eq_true h), if_pos (decide_eq_true h)]
      rfl
    · rw [if_neg (by simp [h]), if_neg (by simp [h]), List.map_cons, zset1_snd a x r]
theorem find_snd {α : Type} (p : α → Bool) : ∀ (l : List (Nat × α)), (l.map Prod.snd).find? p = (l.find? (fun e => p e.2)).map Prod.snd
  | [] => rfl
  | e :: r => by
    rw [List.map_cons, List.find?_cons, List.find?_cons]
    cases h : p e.2
    · exact find_snd p r
    · rfl
theorem zcap_snd {α : Type} (n : Nat) (l : List (Nat × α)) : (zcap n l).map Prod.snd = zcap n (l.map Prod.snd) := by
  unfold zcap
  rw [List.length_map]
  by_cases h : n ≤ l.length
  · rw [if_pos h, if_pos h, zer_map]
  · rw [if_neg h, if_neg h]
theorem zcap_len {α : Type} {n : Nat} {l : List α} (h0 : 0 < n) (h : l.length ≤ n) : (zcap n l).length < n := by
  unfold zcap
  by_cases hn : n ≤ l.length
  · rw [if_pos hn, List.length_eraseIdx_of_lt (by omega)]
    omega
  · rw [if_neg hn]
    omega
theorem zkeep_snd (n : Nat) (x : zTD) (b : Nat) (l : List (Nat × zTD)) : (zkeep n x b l).map Prod.snd = tkeep n x (l.map Prod.snd) := by
  unfold zkeep tkeep
  rw [find_snd]
  cases h : l.find? (fun e => decide (e.2.1 = x.1)) with
  | some e => exact zset1_snd x.1 x l
  | none =>
    show (zcap n l ++ [(b, x)]).map Prod.snd = zcap n (l.map Prod.snd) ++ [x]
    rw [List.map_append, zcap_snd]
    rfl
theorem zset1_len {α : Type} (p : α → Bool) (f : α → α) : ∀ (l : List α), (zset1 p f l).length = l.length
  | [] => rfl
  | e :: r => by
    rw [zset1]
    by_cases h : p e = true
    · rw [if_pos h]
      rfl
    · rw [if_neg h, List.length_cons, List.length_cons, zset1_len p f r]
theorem zkeep_len {n : Nat} {x : zTD} {b : Nat} {l : List (Nat × zTD)} (h0 : 0 < n) (h : l.length ≤ n) : (zkeep n x b l).length ≤ n := by
  unfold zkeep
  cases hf : l.find? (fun e => decide (e.2.1 = x.1)) with
  | some e =>
    show (zset1 _ _ l).length ≤ n
    rw [zset1_len]
    exact h
  | none =>
    show (zcap n l ++ [(b, x)]).length ≤ n
    rw [List.length_append, List.length_singleton]
    have := zcap_len h0 h
    omega
theorem c_tr_keep {g : zG} {ws : va_W} {post : Option Value → va_W → Prop} {r l n : Nat} {mo : Int32} {y : hLi zTD} {R : va_W} {a e z : Int32} (hs : zHas ws (rwW g 8 7 tdV r l y.1.1 y.1.2 [.int mo] y.2 ++ R)) (hk : hok n y) (hm : mo = nI n) (h0 : 0 < n) (hn : n < 10)
    (k : ∀ (y' : hLi zTD) (w : va_W), hok n y' → y'.2.map Prod.snd = tkeep n (a, e, z) (y.2.map Prod.snd) → zHas w (rwW g 8 7 tdV r l y'.1.1 y'.1.2 [.int mo] y'.2 ++ R) → post none w) : zC g i_Tr_keep [.ref r, .int a, .int e, .int z] ws post := by
  refine c_Tr_keep hs hk.1 (Nat.le_trans hk.2 (by omega)) hm h0 hn hk.2 fun b d' m' w hd h => ?_
  refine k ((d', m'), zkeep n (a, e, z) b y.2) w ⟨fun q => ?_, zkeep_len h0 hk.2⟩ (zkeep_snd _ _ _ _) h
  obtain ⟨q1, q2⟩ := hd q
  rw [hk.1 q1] at q2
  cases q2
theorem c_tr_drop {g : zG} {ws : va_W} {post : Option Value → va_W → Prop} {r l n : Nat} {mo : Int32} {y : hLi zTD} {R : va_W} {a : Int32} (hs : zHas ws (rwW g 8 7 tdV r l y.1.1 y.1.2 [.int mo] y.2 ++ R)) (hk : hok n y) (hn : n < 10)
    (k : ∀ (y' : hLi zTD) (w : va_W), hok n y' → y'.2.map Prod.snd = (y.2.map Prod.snd).filter (fun e => !decide (e.1 = a)) → zHas w (rwW g 8 7 tdV r l y'.1.1 y'.1.2 [.int mo] y'.2 ++ R) → post none w) : zC g i_Tr_drop [.ref r, .int a] ws post := by
  refine c_Tr_drop hs hk.1 (Nat.le_trans hk.2 (by omega)) fun m' w h => ?_
  refine k ((y.1.1, m'), y.2.filter (fun e => !decide (e.2.1 = a))) w ⟨fun q => ?_, Nat.le_trans (List.length_filter_le _ _) hk.2⟩ ?_ h
  · show y.2.filter _ = []
    rw [hk.1 q]
    rfl
  · rw [List.filter_map]
    rfl
theorem hok_add {α : Type} {n : Nat} {x : hLi α} {d : Nat} {m : Int32} {e : Nat × α} (h : x.2.length < n) : hok n ((some d, m), x.2 ++ [e]) := ⟨fun q => (by cases q), by show (x.2 ++ [e]).length ≤ n; rw [List.length_append, List.length_singleton]; omega⟩
theorem hok_set {α : Type} {n : Nat} {x : hLi α} {j : Nat} {e : Nat × α} (h : hok n x) : hok n (x.1, x.2.set j e) := ⟨fun q => (by show x.2.set j e = []; rw [h.1 q]; rfl), by show (x.2.set j e).length ≤ n; rw [List.length_set]; exact h.2⟩
end ZHost3
theorem c_Ho_requireArguments {g : zG} {ws : va_W} {post : Option Value → va_W → Prop} {b : Int32} (hb : ¬ b = 0) (k : post none ws) : zC g i_Ho_requireArguments [.int b] ws post := by
  refine zC.intro (by decide +kernel) rfl (Nat.le_of_ble_eq_true rfl) fun x0 hq => ?_
  refine zo_iload_n (i := i_Ho_requireArguments) (pc := 0) d_Ho_requireArguments_0 rfl ?_
  refine zo_if_ne (i := i_Ho_requireArguments) (pc := 1) (tgt := 15) d_Ho_requireArguments_1 (by decide) (fun h1 => ?_) (fun h1 => False.elim (by first | exact absurd h1 (hb) | exact absurd (hb) h1))
  refine zo_return (i := i_Ho_requireArguments) (pc := 15) hq d_Ho_requireArguments_15 rfl (Nat.le_of_ble_eq_true rfl) (Nat.le_of_ble_eq_true rfl) ?_
  exact k
theorem c_Ho_requireIndex {g : zG} {ws : va_W} {post : Option Value → va_W → Prop} {a b : Int32} (hA : ¬ a < 0) (hB : a < b) (k : post none ws) : zC g i_Ho_requireIndex [.int a, .int b] ws post := by
  refine zC.intro (by decide +kernel) rfl (Nat.le_of_ble_eq_true rfl) fun x0 hq => ?_
  refine zo_iload_n (i := i_Ho_requireIndex) (pc := 0) d_Ho_requireIndex_0 rfl ?_
  refine zo_if_lt (i := i_Ho_requireIndex) (pc := 1) (tgt := 9) d_Ho_requireIndex_1 (by decide) (fun h1 => False.elim (by first | exact absurd h1 (hA) | exact absurd (hA) h1)) (fun h1 => ?_)
  refine zo_iload_n (i := i_Ho_requireIndex) (pc := 4) d_Ho_requireIndex_4 rfl ?_
  refine zo_iload_n (i := i_Ho_requireIndex) (pc := 5) d_Ho_requireIndex_5 rfl ?_
  refine zo_icmp_lt (i := i_Ho_requireIndex) (pc := 6) (tgt := 20) d_Ho_requireIndex_6 (by decide) (fun h6 => ?_) (fun h6 => False.elim (by first | exact absurd h6 (hB) | exact absurd (hB) h6))
  refine zo_return (i := i_Ho_requireIndex) (pc := 20) hq d_Ho_requireIndex_20 rfl (Nat.le_of_ble_eq_true rfl) (Nat.le_of_ble_eq_true rfl) ?_
  exact k
theorem c_Ho_requireUp {g : zG} {ws : va_W} {post : Option Value → va_W → Prop} {A : Nat → Nat} {s : hSc} (he : zget ws (A 0) = some (hoC A s).2) (hu : s.2.2.2.2.2.2 = false) (k : post none ws) : zC g i_Ho_requireUp [.ref (A 0)] ws post := by
  refine zC.intro (by decide +kernel) rfl (Nat.le_of_ble_eq_true rfl) fun x0 hq => ?_
  refine zo_aload_n (i := i_Ho_requireUp) (pc := 0) d_Ho_requireUp_0 rfl rfl ?_
  refine zo_get (i := i_Ho_requireUp) (pc := 1) 9 13 rfl zok_Ho (Nat.le_of_ble_eq_true rfl) (ztb_of k_275 rfl) d_Ho_requireUp_1 (fun _ _ _ h => h) he rfl ?_
  refine zo_if_eq (i := i_Ho_requireUp) (pc := 4) (tgt := 18) d_Ho_requireUp_4 (by decide) (fun h4 => ?_) (fun h4 => False.elim (by first | exact absurd h4 (by rw [hu]; rfl) | exact absurd (by rw [hu]; rfl) h4))
  refine zo_return (i := i_Ho_requireUp) (pc := 18) hq d_Ho_requireUp_18 rfl (Nat.le_of_ble_eq_true rfl) (Nat.le_of_ble_eq_true rfl) ?_
  exact k
theorem c_Ho_form {g : zG} {ws : va_W} {post : Option Value → va_W → Prop} {A : Nat → Nat} {s : hSc} {u : hOu} {ow : hLi zOD} {nb : hLi zND} {ro pf pa : hLi zTD} {hd : hHd} {R : va_W} {p ve pe : Int32} (h1 : hok 5 ow) (hs : zHas ws (hL g A s u ow nb ro pf pa hd R).flatten) (k : ∀ b d' m' w, zHas w (hL g A s (ouAdd u 1 65535 (256 * p + s.1)) ((some d', m'), ow.2 ++ [(b, (256 * p + s.1, s.2.1, 1, ve, pe))]) nb ro pf pa hd R).flatten → post none w) : zC g i_Ho_form [.ref (A 0), .int p, .int ve, .int pe] ws post := by
  refine zC.intro (by decide +kernel) rfl (Nat.le_of_ble_eq_true rfl) fun x0 hq => ?_
  refine zh_new (i := i_Ho_form) (pc := 0) 5 rfl zok_Oa (ztb_of k_158 rfl) (ztb_of k_159 rfl) (ztb_of k_11 rfl) d_Ho_form_0 (fs := [.int 0, .int 0, .int 0, .int 0, .int 0]) (by decide) (Nat.le_of_ble_eq_true rfl) (Nat.le_of_ble_eq_true rfl) hs fun a0 ws hs => ?_
  refine zo_dup (i := i_Ho_form) (pc := 3) d_Ho_form_3 rfl ?_
  refine zo_iload_n (i := i_Ho_form) (pc := 4) d_Ho_form_4 rfl ?_
  refine zo_aload_n (i := i_Ho_form) (pc := 5) d_Ho_form_5 rfl rfl ?_
  refine zo_get (i := i_Ho_form) (pc := 6) 9 0 rfl zok_Ho (Nat.le_of_ble_eq_true rfl) (ztb_of k_262 rfl) d_Ho_form_6 (fun _ _ _ h => h) (hs.get (t := 1) rfl) rfl ?_
  refine zc_S2 (i := i_Ho_form) (pc := 9) m_Ho_addressOf (ztb_of k_160 rfl) (ztb_of k_161 rfl) d_Ho_form_9 (Nat.le_of_ble_eq_true rfl) (Nat.le_of_ble_eq_true rfl) (Nat.le_of_ble_eq_true rfl) (Nat.le_of_ble_eq_true rfl) (c_Ho_addressOf ?_)
  refine zo_aload_n (i := i_Ho_form) (pc := 12) d_Ho_form_12 rfl rfl ?_
  refine zo_get (i := i_Ho_form) (pc := 13) 9 8 rfl zok_Ho (Nat.le_of_ble_eq_true rfl) (ztb_of k_270 rfl) d_Ho_form_13 (fun _ _ _ h => h) (hs.get (t := 1) rfl) rfl ?_
  refine zc_IN2 (i := i_Ho_form) (pc := 16) m_Oa_init rfl rfl (ztb_of k_163 rfl) (ztb_of k_164 rfl) d_Ho_form_16 (Nat.le_of_ble_eq_true rfl) (Nat.le_of_ble_eq_true rfl) (Nat.le_of_ble_eq_true rfl) (Nat.le_of_ble_eq_true rfl) (c_Oa_init hs fun ws hs => ?_)
  refine zo_astore (i := i_Ho_form) (pc := 19) d_Ho_form_19 rfl (Nat.le_of_ble_eq_true rfl) ?_
  refine zo_aload (i := i_Ho_form) (pc := 21) d_Ho_form_21 rfl rfl ?_
  refine zo_iload_n (i := i_Ho_form) (pc := 23) d_Ho_form_23 rfl ?_
  refine zh_putN (i := i_Ho_form) (pc := 24) 5 3 rfl zok_Oa (Nat.le_of_ble_eq_true rfl) (ztb_of k_177 rfl) rfl d_Ho_form_24 (fun _ _ _ h => h) (t_Oa_ok 3 (Nat.le_of_ble_eq_true rfl)) rfl rfl hs 0 rfl (Nat.le_of_ble_eq_true rfl) fun ws hs => ?_
  refine zo_aload (i := i_Ho_form) (pc := 27) d_Ho_form_27 rfl rfl ?_
  refine zo_iload_n (i := i_Ho_form) (pc := 29) d_Ho_form_29 rfl ?_
  refine zh_putN (i := i_Ho_form) (pc := 30) 5 4 rfl zok_Oa (Nat.le_of_ble_eq_true rfl) (ztb_of k_179 rfl) rfl d_Ho_form_30 (fun _ _ _ h => h) (t_Oa_ok 4 (Nat.le_of_ble_eq_true rfl)) rfl rfl hs 0 rfl (Nat.le_of_ble_eq_true rfl) fun ws hs => ?_
  refine zo_aload_n (i := i_Ho_form) (pc := 33) d_Ho_form_33 rfl rfl ?_
  refine zo_get (i := i_Ho_form) (pc := 34) 9 2 rfl zok_Ho (Nat.le_of_ble_eq_true rfl) (ztb_of k_264 rfl) d_Ho_form_34 (fun _ _ _ h => h) (hs.get (t := 1) rfl) rfl ?_
  refine zo_aload (i := i_Ho_form) (pc := 37) d_Ho_form_37 rfl rfl ?_
  refine zc_VN1 (i := i_Ho_form) (pc := 39) 6 rfl m_Or_add (ztb_of k_191 rfl) (ztb_of k_193 rfl) s_Or_add d_Ho_form_39 (Nat.le_of_ble_eq_true rfl) (Nat.le_of_ble_eq_true rfl) (Nat.le_of_ble_eq_true rfl) (Nat.le_of_ble_eq_true rfl) ((hs.pickN 2 rfl).get (t := 0) rfl) (c_Or_add (y := (256 * p + s.1, s.2.1, 1, ve, pe)) (hs.pickN 2 rfl) h1.1 (Nat.lt_of_le_of_lt h1.2 (by decide)) fun d' m' ws hs => ?_)
  replace hs : zHas ws (hL g A s u ((some d', m'), ow.2 ++ [(a0, (256 * p + s.1, s.2.1, 1, ve, pe))]) nb ro pf pa hd R).flatten := zHas.back (cs := hL g A s u ow nb ro pf pa hd R) 2 rfl hs
  refine zo_aload_n (i := i_Ho_form) (pc := 42) d_Ho_form_42 rfl rfl ?_
  refine zo_aload (i := i_Ho_form) (pc := 43) d_Ho_form_43 rfl rfl ?_
  refine zc_V1 (i := i_Ho_form) (pc := 45) 9 rfl m_Ho_probe (ztb_of k_252 rfl) (ztb_of k_254 rfl) s_Ho_probe d_Ho_form_45 (Nat.le_of_ble_eq_true rfl) (Nat.le_of_ble_eq_true rfl) (Nat.le_of_ble_eq_true rfl) (Nat.le_of_ble_eq_true rfl) (hs.get (t := 0) rfl) (c_Ho_probe (hv_ow hs (zlast _ _)) fun ws hs => ?_)
  replace hs : zHas ws (hL g A s (ouAdd u 1 65535 (256 * p + s.1)) ((some d', m'), ow.2 ++ [(a0, (256 * p + s.1, s.2.1, 1, ve, pe))]) nb ro pf pa hd R).flatten := (hu_ow (ow := ((some d', m'), ow.2 ++ [(a0, (256 * p + s.1, s.2.1, 1, ve, pe))])) (zlast _ _) hs).eq (congrArg (fun l => (hL g A s (ouAdd u 1 65535 (256 * p + s.1)) ((some d', m'), l) nb ro pf pa hd R).flatten) (zset_self (zlast _ _)))
  refine zo_return (i := i_Ho_form) (pc := 48) hq d_Ho_form_48 rfl (Nat.le_of_ble_eq_true rfl) (Nat.le_of_ble_eq_true rfl) ?_
  exact k _ _ _ ws hs
/-- the host's state without addresses: scalars, sent, own addresses, neighbours, routers, prefixes, paths, headers -/
abbrev hT : Type := hSc × hOu × List zOD × List zND × List zTD × List zTD × List zTD × hHd
