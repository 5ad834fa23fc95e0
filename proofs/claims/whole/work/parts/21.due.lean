/-! The host whole: what is due at a tick (walks by a program, gen21.py). -/
section ZHost2
/-- a list's array and count of changes, and its elements -/
abbrev hLi (α : Type) : Type := (Option Nat × Int32) × List (Nat × α)
/-- how many headers; kinds and numbers -/
abbrev hHd : Type := Nat × (Nat → Int32) × (Nat → Int32)
def hok {α : Type} (n : Nat) (x : hLi α) : Prop := (x.1.1 = none → x.2 = []) ∧ x.2.length ≤ n
abbrev owW (g : zG) (A : Nat → Nat) (x : hLi zOD) : va_W := rwW g 6 5 odV (A 5) (A 6) x.1.1 x.1.2 [] x.2
abbrev nbW (g : zG) (A : Nat → Nat) (x : hLi zND) : va_W := rwW g 3 2 ndV (A 7) (A 8) x.1.1 x.1.2 [] x.2
abbrev roW (g : zG) (A : Nat → Nat) (x : hLi zTD) : va_W := rwW g 8 7 tdV (A 9) (A 10) x.1.1 x.1.2 [.int 3] x.2
abbrev pfW (g : zG) (A : Nat → Nat) (x : hLi zTD) : va_W := rwW g 8 7 tdV (A 11) (A 12) x.1.1 x.1.2 [.int 4] x.2
abbrev paW (g : zG) (A : Nat → Nat) (x : hLi zTD) : va_W := rwW g 8 7 tdV (A 13) (A 14) x.1.1 x.1.2 [.int 4] x.2
abbrev heW (g : zG) (A : Nat → Nat) (x : hHd) : va_W := hdW g (A 15) (A 16) (A 17) x.2.1 x.2.2 (nI x.1)
/-- the host's cells by components, and all else -/
def hL (g : zG) (A : Nat → Nat) (s : hSc) (u : hOu) (ow : hLi zOD) (nb : hLi zND) (ro pf pa : hLi zTD) (hd : hHd) (R : va_W) : List va_W :=
  [[hoC A s], ouN g A u, owW g A ow, nbW g A nb, roW g A ro, pfW g A pf, paW g A pa, heW g A hd, R]
theorem rwp_open {α : Type} {g : zG} {R : va_W} {rc ec : Nat} {v : α → List Value} {r l : Nat} {d : Option Nat} {m : Int32} {ex : List Value} {els : List (Nat × α)} :
    (rwW g rc ec v r l d m ex els ++ R).Perm (alW g l d m (els.map Prod.fst) ++ ((r, .inr (rc, .ref l :: ex)) :: (els.map (fun e => (e.1, .inr (ec, v e.2))) ++ R))) := by
  show ((r, .inr (rc, .ref l :: ex)) :: ((alW g l d m (els.map Prod.fst) ++ els.map (fun e => (e.1, .inr (ec, v e.2)))) ++ R)).Perm _
  rw [List.append_assoc]
  exact List.perm_middle.symm
theorem rwp_pull {α : Type} {g : zG} {R : va_W} {rc ec : Nat} {v : α → List Value} {r l : Nat} {d : Option Nat} {m : Int32} {ex : List Value} {els : List (Nat × α)} {j : Nat} {e : Nat × α} (he : els[j]? = some e) :
    (rwW g rc ec v r l d m ex els ++ R).Perm ((e.1, .inr (ec, v e.2)) :: rwX g rc ec v r l d m ex els j R) := by
  refine rwp_open.trans ?_
  have p1 : (els.map (fun e => (e.1, (.inr (ec, v e.2) : va_E)))).Perm ((e.1, .inr (ec, v e.2)) :: (els.eraseIdx j).map (fun e => (e.1, (.inr (ec, v e.2) : va_E)))) := (zper he).map _
  refine (List.Perm.append_left _ (List.Perm.cons _ (List.Perm.append_right R p1))).trans ?_
  refine (List.Perm.append_left _ (List.Perm.swap _ _ _)).trans ?_
  exact List.perm_middle
theorem set_fst {α : Type} {els : List (Nat × α)} {j : Nat} {e : Nat × α} {y : α} (he : els[j]? = some e) : (els.set j (e.1, y)).map Prod.fst = els.map Prod.fst := by
  rw [List.map_set]
  refine List.ext_getElem? fun t => ?_
  rw [List.getElem?_set]
  by_cases ht : j = t
  · subst ht
    rw [if_pos rfl, List.getElem?_map, he, if_pos (by rw [List.length_map]; exact (List.getElem?_eq_some_iff.mp he).1)]
    rfl
  · rw [if_neg ht]
theorem rwp_push {α : Type} {g : zG} {R : va_W} {rc ec : Nat} {v : α → List Value} {r l : Nat} {d : Option Nat} {m : Int32} {ex : List Value} {els : List (Nat × α)} {j : Nat} {e : Nat × α} {y : α} (he : els[j]? = some e) :
    ((e.1, (.inr (ec, v y) : va_E)) :: rwX g rc ec v r l d m ex els j R).Perm (rwW g rc ec v r l d m ex (els.set j (e.1, y)) ++ R) := by
  refine List.Perm.trans ?_ rwp_open.symm
  rw [set_fst he]
  have p1 : ((els.set j (e.1, y)).map (fun e => (e.1, (.inr (ec, v e.2) : va_E)))).Perm ((e.1, .inr (ec, v y)) :: (els.eraseIdx j).map (fun e => (e.1, (.inr (ec, v e.2) : va_E)))) := (zper_set he).map _
  refine List.Perm.trans ?_ (List.Perm.append_left _ (List.Perm.cons _ (List.Perm.append_right R p1.symm)))
  refine List.Perm.trans ?_ (List.Perm.append_left _ (List.Perm.swap _ _ _))
  exact List.perm_middle.symm
variable {g : zG} {ws : va_W} {A : Nat → Nat} {s : hSc} {u : hOu} {ow : hLi zOD} {nb : hLi zND} {ro pf pa : hLi zTD} {hd : hHd} {R : va_W}
theorem hflat : (hL g A s u ow nb ro pf pa hd R).flatten = (hoC A s :: (ouN g A u ++ (owW g A ow ++ (nbW g A nb ++ (roW g A ro ++ (pfW g A pf ++ (paW g A pa ++ (heW g A hd ++ (R ++ []))))))))) := by
  unfold hL
  rw [List.flatten_cons, List.flatten_cons, List.flatten_cons, List.flatten_cons, List.flatten_cons, List.flatten_cons, List.flatten_cons, List.flatten_cons, List.flatten_cons, List.flatten_nil]
  rfl
/-- one own address beside the host's cell and what was sent -/
theorem hv_ow {j : Nat} {e : Nat × zOD} (hs : zHas ws (hL g A s u ow nb ro pf pa hd R).flatten) (he : ow.2[j]? = some e) :
    zHas ws (hoC A s :: (ouN g A u ++ ((e.1, .inr (5, odV e.2)) :: rwX g 6 5 odV (A 5) (A 6) ow.1.1 ow.1.2 [] ow.2 j (nbW g A nb ++ (roW g A ro ++ (pfW g A pf ++ (paW g A pa ++ (heW g A hd ++ (R ++ []))))))))) :=
  (hs.eq hflat).perm (List.Perm.cons _ (List.Perm.append_left _ (rwp_pull he)))
theorem hu_ow {j : Nat} {e : Nat × zOD} {y : zOD} (he : ow.2[j]? = some e)
    (hs : zHas ws (hoC A s :: (ouN g A u ++ ((e.1, .inr (5, odV y)) :: rwX g 6 5 odV (A 5) (A 6) ow.1.1 ow.1.2 [] ow.2 j (nbW g A nb ++ (roW g A ro ++ (pfW g A pf ++ (paW g A pa ++ (heW g A hd ++ (R ++ [])))))))))) : zHas ws (hL g A s u (ow.1, ow.2.set j (e.1, y)) nb ro pf pa hd R).flatten :=
  (hs.perm (List.Perm.cons _ (List.Perm.append_left _ (rwp_push he)))).eq (hflat (ow := (ow.1, ow.2.set j (e.1, y)))).symm
/-- one neighbour beside them -/
theorem hv_nb {j : Nat} {e : Nat × zND} (hs : zHas ws (hL g A s u ow nb ro pf pa hd R).flatten) (he : nb.2[j]? = some e) :
    zHas ws (hoC A s :: (ouN g A u ++ ((e.1, .inr (2, ndV e.2)) :: rwX g 3 2 ndV (A 7) (A 8) nb.1.1 nb.1.2 [] nb.2 j (owW g A ow ++ (roW g A ro ++ (pfW g A pf ++ (paW g A pa ++ (heW g A hd ++ (R ++ []))))))))) :=
  (hs.eq hflat).perm (List.Perm.cons _ (List.Perm.append_left _ ((List.perm_append_comm_assoc _ _ _).trans (rwp_pull he))))
theorem hu_nb {j : Nat} {e : Nat × zND} {y : zND} (he : nb.2[j]? = some e)
    (hs : zHas ws (hoC A s :: (ouN g A u ++ ((e.1, .inr (2, ndV y)) :: rwX g 3 2 ndV (A 7) (A 8) nb.1.1 nb.1.2 [] nb.2 j (owW g A ow ++ (roW g A ro ++ (pfW g A pf ++ (paW g A pa ++ (heW g A hd ++ (R ++ [])))))))))) : zHas ws (hL g A s u ow (nb.1, nb.2.set j (e.1, y)) ro pf pa hd R).flatten :=
  (hs.perm (List.Perm.cons _ (List.Perm.append_left _ ((rwp_push he).trans (List.perm_append_comm_assoc _ _ _))))).eq (hflat (nb := (nb.1, nb.2.set j (e.1, y)))).symm
/-- the first i of a list done -/
def zmi {α : Type} (f : α → α) (els : List α) (i : Nat) : List α := (els.take i).map f ++ els.drop i
theorem zmi_at {α : Type} {f : α → α} {els : List α} {i : Nat} {e : α} (he : els[i]? = some e) : (zmi f els i)[i]? = some e := by
  obtain ⟨-, h2, h3⟩ := zcut he
  unfold zmi
  rw [List.getElem?_append_right (by rw [List.length_map]; omega), List.length_map, h3, Nat.sub_self, h2]
  rfl
theorem zmi_set {α : Type} {f : α → α} {els : List α} {i : Nat} {e : α} (he : els[i]? = some e) : (zmi f els i).set i (f e) = zmi f els (i + 1) := by
  obtain ⟨h1, h2, h3⟩ := zcut he
  unfold zmi
  rw [List.set_append_right _ _ (by rw [List.length_map]; omega), List.length_map, h3, Nat.sub_self, h2, h1, List.map_append, List.append_assoc]
  rfl
theorem zmi_len {α : Type} (f : α → α) (els : List α) (i : Nat) : (zmi f els i).length = els.length := by
  unfold zmi
  rw [List.length_append, List.length_map, ← List.length_append, List.take_append_drop]
theorem zmi_0 {α : Type} (f : α → α) (els : List α) : zmi f els 0 = els := rfl
theorem zmi_n {α : Type} (f : α → α) (els : List α) : zmi f els els.length = els.map f := by
  unfold zmi
  rw [List.take_length, List.drop_length, List.append_nil]
def fOw (t : Int32) (e : Nat × zOD) : Nat × zOD := (e.1, oaA t e.2)
def fNb (t : Int32) (e : Nat × zND) : Nat × zND := (e.1, ndA t e.2)
def uOw (t : Int32) (l : List (Nat × zOD)) (u : hOu) : hOu := l.foldl (fun u e => if oaP t e.2 then ouAdd u 1 65535 e.2.1 else u) u
def uNb (t : Int32) (l : List (Nat × zND)) (u : hOu) : hOu := l.foldl (fun u e => if ndQ t e.2 then ouAdd u 2 (askTo (ndA t e.2)) e.2.1 else u) u
theorem foldl_cut {α β : Type} {F : β → α → β} {els : List α} {i : Nat} {e : α} {u : β} (he : els[i]? = some e) : (els.take (i + 1)).foldl F u = F ((els.take i).foldl F u) e := by
  obtain ⟨h1, -, -⟩ := zcut he
  rw [h1, List.foldl_append]
  rfl
def dueS (s : hSc) (w : Int32) : hSc := (s.1, s.2.1, s.2.2.1, s.2.2.2.1 + w, s.2.2.2.2.1, (if s.2.1 - s.2.1 / 4 * 4 = 0 ∧ ¬ 3 ≤ s.2.2.2.2.2.1 then s.2.2.2.2.2.1 + 1 else s.2.2.2.2.2.1), s.2.2.2.2.2.2)
end ZHost2
theorem w_due_73 {x0 : zX} {g : zG} {ws : va_W} {post : Option Value → va_W → Prop} {A : Nat → Nat} {s : hSc} {u : hOu} {ow : hLi zOD} {nb : hLi zND} {ro pf pa : hLi zTD} {hd : hHd} {R : va_W} {o : Option Value} (hq : zQ x0 g i_Ho_doWhatIsDue post) (h1 : hok 5 ow) (h2 : hok 6 nb) (h3 : hok 3 ro) (h4 : hok 4 pf) (h5 : hok 4 pa) (hs : zHas ws (hL g A s u ow nb ro pf pa hd R).flatten) (k : ∀ m1 m2 m3 m4 w, zHas w (hL g A (dueS s (zgw s.2.1 nb.2)) u ow ((nb.1.1, m1), nb.2.filter (fun e => !zgone s.2.1 e.2)) ((ro.1.1, m2), ro.2.filter (fun e => decide (s.2.1 < e.2.2.1))) ((pf.1.1, m3), pf.2.filter (fun e => decide (s.2.1 < e.2.2.1))) ((pa.1.1, m4), pa.2.filter (fun e => decide (s.2.1 < e.2.2.1))) hd R).flatten → post none w) : zW x0 g i_Ho_doWhatIsDue 73 [some (.ref (A 0)), o] [] ws 0 0 := by
  refine zo_aload_n (i := i_Ho_doWhatIsDue) (pc := 73) d_Ho_doWhatIsDue_73 rfl rfl ?_
  refine zo_dup (i := i_Ho_doWhatIsDue) (pc := 74) d_Ho_doWhatIsDue_74 rfl ?_
  refine zo_get (i := i_Ho_doWhatIsDue) (pc := 75) 9 10 rfl zok_Ho (Nat.le_of_ble_eq_true rfl) (ztb_of k_272 rfl) d_Ho_doWhatIsDue_75 (fun _ _ _ h => h) (hs.get (t := 0) rfl) rfl ?_
  refine zo_aload_n (i := i_Ho_doWhatIsDue) (pc := 78) d_Ho_doWhatIsDue_78 rfl rfl ?_
  refine zo_get (i := i_Ho_doWhatIsDue) (pc := 79) 9 3 rfl zok_Ho (Nat.le_of_ble_eq_true rfl) (ztb_of k_265 rfl) d_Ho_doWhatIsDue_79 (fun _ _ _ h => h) (hs.get (t := 0) rfl) rfl ?_
  refine zo_aload_n (i := i_Ho_doWhatIsDue) (pc := 82) d_Ho_doWhatIsDue_82 rfl rfl ?_
  refine zo_get (i := i_Ho_doWhatIsDue) (pc := 83) 9 8 rfl zok_Ho (Nat.le_of_ble_eq_true rfl) (ztb_of k_270 rfl) d_Ho_doWhatIsDue_83 (fun _ _ _ h => h) (hs.get (t := 0) rfl) rfl ?_
  refine zc_VN1 (i := i_Ho_doWhatIsDue) (pc := 86) 3 rfl m_Nr_giveUp (ztb_of k_489 rfl) (ztb_of k_491 rfl) s_Nr_giveUp d_Ho_doWhatIsDue_86 (Nat.le_of_ble_eq_true rfl) (Nat.le_of_ble_eq_true rfl) (Nat.le_of_ble_eq_true rfl) (Nat.le_of_ble_eq_true rfl) ((hs.pick 3 rfl).get (t := 0) rfl) (c_Nr_giveUp (hs.pick 3 rfl) h2.1 (Nat.le_trans h2.2 (by decide)) fun m1 ws hs => ?_)
  replace hs : zHas ws (hL g A s u ow ((nb.1.1, m1), nb.2.filter (fun e => !zgone s.2.1 e.2)) ro pf pa hd R).flatten := zHas.back (cs := hL g A s u ow nb ro pf pa hd R) 3 rfl hs
  refine zo_iadd (i := i_Ho_doWhatIsDue) (pc := 89) d_Ho_doWhatIsDue_89 ?_
  refine zh_put (i := i_Ho_doWhatIsDue) (pc := 90) 9 10 rfl zok_Ho (Nat.le_of_ble_eq_true rfl) (ztb_of k_272 rfl) rfl d_Ho_doWhatIsDue_90 (fun _ _ _ h => h) (t_Ho_ok 10 (Nat.le_of_ble_eq_true rfl)) rfl rfl hs 0 rfl (Nat.le_of_ble_eq_true rfl) fun ws hs => ?_
  replace hs : zHas ws (hL g A (s.1, s.2.1, s.2.2.1, s.2.2.2.1 + zgw s.2.1 nb.2, s.2.2.2.2) u ow ((nb.1.1, m1), nb.2.filter (fun e => !zgone s.2.1 e.2)) ro pf pa hd R).flatten := hs
  refine zo_aload_n (i := i_Ho_doWhatIsDue) (pc := 93) d_Ho_doWhatIsDue_93 rfl rfl ?_
  refine zo_get (i := i_Ho_doWhatIsDue) (pc := 94) 9 4 rfl zok_Ho (Nat.le_of_ble_eq_true rfl) (ztb_of k_266 rfl) d_Ho_doWhatIsDue_94 (fun _ _ _ h => h) (hs.get (t := 0) rfl) rfl ?_
  refine zo_aload_n (i := i_Ho_doWhatIsDue) (pc := 97) d_Ho_doWhatIsDue_97 rfl rfl ?_
  refine zo_get (i := i_Ho_doWhatIsDue) (pc := 98) 9 8 rfl zok_Ho (Nat.le_of_ble_eq_true rfl) (ztb_of k_270 rfl) d_Ho_doWhatIsDue_98 (fun _ _ _ h => h) (hs.get (t := 0) rfl) rfl ?_
  refine zc_VN1 (i := i_Ho_doWhatIsDue) (pc := 101) 8 rfl m_Tr_expire (ztb_of k_496 rfl) (ztb_of k_498 rfl) s_Tr_expire d_Ho_doWhatIsDue_101 (Nat.le_of_ble_eq_true rfl) (Nat.le_of_ble_eq_true rfl) (Nat.le_of_ble_eq_true rfl) (Nat.le_of_ble_eq_true rfl) ((hs.pick 4 rfl).get (t := 0) rfl) (c_Tr_expire (hs.pick 4 rfl) h3.1 (Nat.le_trans h3.2 (by decide)) fun m2 ws hs => ?_)
  replace hs : zHas ws (hL g A (s.1, s.2.1, s.2.2.1, s.2.2.2.1 + zgw s.2.1 nb.2, s.2.2.2.2) u ow ((nb.1.1, m1), nb.2.filter (fun e => !zgone s.2.1 e.2)) ((ro.1.1, m2), ro.2.filter (fun e => decide (s.2.1 < e.2.2.1))) pf pa hd R).flatten := zHas.back (cs := hL g A (s.1, s.2.1, s.2.2.1, s.2.2.2.1 + zgw s.2.1 nb.2, s.2.2.2.2) u ow ((nb.1.1, m1), nb.2.filter (fun e => !zgone s.2.1 e.2)) ro pf pa hd R) 4 rfl hs
  refine zo_aload_n (i := i_Ho_doWhatIsDue) (pc := 104) d_Ho_doWhatIsDue_104 rfl rfl ?_
  refine zo_get (i := i_Ho_doWhatIsDue) (pc := 105) 9 5 rfl zok_Ho (Nat.le_of_ble_eq_true rfl) (ztb_of k_267 rfl) d_Ho_doWhatIsDue_105 (fun _ _ _ h => h) (hs.get (t := 0) rfl) rfl ?_
  refine zo_aload_n (i := i_Ho_doWhatIsDue) (pc := 108) d_Ho_doWhatIsDue_108 rfl rfl ?_
  refine zo_get (i := i_Ho_doWhatIsDue) (pc := 109) 9 8 rfl zok_Ho (Nat.le_of_ble_eq_true rfl) (ztb_of k_270 rfl) d_Ho_doWhatIsDue_109 (fun _ _ _ h => h) (hs.get (t := 0) rfl) rfl ?_
  refine zc_VN1 (i := i_Ho_doWhatIsDue) (pc := 112) 8 rfl m_Tr_expire (ztb_of k_496 rfl) (ztb_of k_498 rfl) s_Tr_expire d_Ho_doWhatIsDue_112 (Nat.le_of_ble_eq_true rfl) (Nat.le_of_ble_eq_true rfl) (Nat.le_of_ble_eq_true rfl) (Nat.le_of_ble_eq_true rfl) ((hs.pick 5 rfl).get (t := 0) rfl) (c_Tr_expire (hs.pick 5 rfl) h4.1 (Nat.le_trans h4.2 (by decide)) fun m3 ws hs => ?_)
  replace hs : zHas ws (hL g A (s.1, s.2.1, s.2.2.1, s.2.2.2.1 + zgw s.2.1 nb.2, s.2.2.2.2) u ow ((nb.1.1, m1), nb.2.filter (fun e => !zgone s.2.1 e.2)) ((ro.1.1, m2), ro.2.filter (fun e => decide (s.2.1 < e.2.2.1))) ((pf.1.1, m3), pf.2.filter (fun e => decide (s.2.1 < e.2.2.1))) pa hd R).flatten := zHas.back (cs := hL g A (s.1, s.2.1, s.2.2.1, s.2.2.2.1 + zgw s.2.1 nb.2, s.2.2.2.2) u ow ((nb.1.1, m1), nb.2.filter (fun e => !zgone s.2.1 e.2)) ((ro.1.1, m2), ro.2.filter (fun e => decide (s.2.1 < e.2.2.1))) pf pa hd R) 5 rfl hs
  refine zo_aload_n (i := i_Ho_doWhatIsDue) (pc := 115) d_Ho_doWhatIsDue_115 rfl rfl ?_
  refine zo_get (i := i_Ho_doWhatIsDue) (pc := 116) 9 6 rfl zok_Ho (Nat.le_of_ble_eq_true rfl) (ztb_of k_268 rfl) d_Ho_doWhatIsDue_116 (fun _ _ _ h => h) (hs.get (t := 0) rfl) rfl ?_
  refine zo_aload_n (i := i_Ho_doWhatIsDue) (pc := 119) d_Ho_doWhatIsDue_119 rfl rfl ?_
  refine zo_get (i := i_Ho_doWhatIsDue) (pc := 120) 9 8 rfl zok_Ho (Nat.le_of_ble_eq_true rfl) (ztb_of k_270 rfl) d_Ho_doWhatIsDue_120 (fun _ _ _ h => h) (hs.get (t := 0) rfl) rfl ?_
  refine zc_VN1 (i := i_Ho_doWhatIsDue) (pc := 123) 8 rfl m_Tr_expire (ztb_of k_496 rfl) (ztb_of k_498 rfl) s_Tr_expire d_Ho_doWhatIsDue_123 (Nat.le_of_ble_eq_true rfl) (Nat.le_of_ble_eq_true rfl) (Nat.le_of_ble_eq_true rfl) (Nat.le_of_ble_eq_true rfl) ((hs.pick 6 rfl).get (t := 0) rfl) (c_Tr_expire (hs.pick 6 rfl) h5.1 (Nat.le_trans h5.2 (by decide)) fun m4 ws hs => ?_)
  replace hs : zHas ws (hL g A (s.1, s.2.1, s.2.2.1, s.2.2.2.1 + zgw s.2.1 nb.2, s.2.2.2.2) u ow ((nb.1.1, m1), nb.2.filter (fun e => !zgone s.2.1 e.2)) ((ro.1.1, m2), ro.2.filter (fun e => decide (s.2.1 < e.2.2.1))) ((pf.1.1, m3), pf.2.filter (fun e => decide (s.2.1 < e.2.2.1))) ((pa.1.1, m4), pa.2.filter (fun e => decide (s.2.1 < e.2.2.1))) hd R).flatten := zHas.back (cs := hL g A (s.1, s.2.1, s.2.2.1, s.2.2.2.1 + zgw s.2.1 nb.2, s.2.2.2.2) u ow ((nb.1.1, m1), nb.2.filter (fun e => !zgone s.2.1 e.2)) ((ro.1.1, m2), ro.2.filter (fun e => decide (s.2.1 < e.2.2.1))) ((pf.1.1, m3), pf.2.filter (fun e => decide (s.2.1 < e.2.2.1))) pa hd R) 6 rfl hs
  refine zo_aload_n (i := i_Ho_doWhatIsDue) (pc := 126) d_Ho_doWhatIsDue_126 rfl rfl ?_
  refine zo_get (i := i_Ho_doWhatIsDue) (pc := 127) 9 8 rfl zok_Ho (Nat.le_of_ble_eq_true rfl) (ztb_of k_270 rfl) d_Ho_doWhatIsDue_127 (fun _ _ _ h => h) (hs.get (t := 0) rfl) rfl ?_
  refine zo_iconst (i := i_Ho_doWhatIsDue) (pc := 130) (v := 4) d_Ho_doWhatIsDue_130 (by decide) ?_
  refine zo_irem (i := i_Ho_doWhatIsDue) (pc := 131) d_Ho_doWhatIsDue_131 (by decide) ?_
  refine zo_if_ne (i := i_Ho_doWhatIsDue) (pc := 132) (tgt := 153) d_Ho_doWhatIsDue_132 (by decide) (fun h132 => ?_) (fun h132 => ?_)
  · refine zo_return (i := i_Ho_doWhatIsDue) (pc := 153) hq d_Ho_doWhatIsDue_153 rfl (Nat.le_of_ble_eq_true rfl) (Nat.le_of_ble_eq_true rfl) ?_
    refine k m1 m2 m3 m4 ws ?_
    unfold dueS
    rw [if_neg (fun q => h132 q.1)]
    exact hs
  · refine zo_aload_n (i := i_Ho_doWhatIsDue) (pc := 135) d_Ho_doWhatIsDue_135 rfl rfl ?_
    refine zo_get (i := i_Ho_doWhatIsDue) (pc := 136) 9 12 rfl zok_Ho (Nat.le_of_ble_eq_true rfl) (ztb_of k_274 rfl) d_Ho_doWhatIsDue_136 (fun _ _ _ h => h) (hs.get (t := 0) rfl) rfl ?_
    refine zo_iconst (i := i_Ho_doWhatIsDue) (pc := 139) (v := 3) d_Ho_doWhatIsDue_139 (by decide) ?_
    refine zo_icmp_ge (i := i_Ho_doWhatIsDue) (pc := 140) (tgt := 153) d_Ho_doWhatIsDue_140 (by decide) (fun h140 => ?_) (fun h140 => ?_)
    · refine zo_return (i := i_Ho_doWhatIsDue) (pc := 153) hq d_Ho_doWhatIsDue_153 rfl (Nat.le_of_ble_eq_true rfl) (Nat.le_of_ble_eq_true rfl) ?_
      refine k m1 m2 m3 m4 ws ?_
      unfold dueS
      rw [if_neg (fun q => q.2 h140)]
      exact hs
    · refine zo_aload_n (i := i_Ho_doWhatIsDue) (pc := 143) d_Ho_doWhatIsDue_143 rfl rfl ?_
      refine zo_dup (i := i_Ho_doWhatIsDue) (pc := 144) d_Ho_doWhatIsDue_144 rfl ?_
      refine zo_get (i := i_Ho_doWhatIsDue) (pc := 145) 9 12 rfl zok_Ho (Nat.le_of_ble_eq_true rfl) (ztb_of k_274 rfl) d_Ho_doWhatIsDue_145 (fun _ _ _ h => h) (hs.get (t := 0) rfl) rfl ?_
      refine zo_iconst (i := i_Ho_doWhatIsDue) (pc := 148) (v := 1) d_Ho_doWhatIsDue_148 (by decide) ?_
      refine zo_iadd (i := i_Ho_doWhatIsDue) (pc := 149) d_Ho_doWhatIsDue_149 ?_
      refine zh_put (i := i_Ho_doWhatIsDue) (pc := 150) 9 12 rfl zok_Ho (Nat.le_of_ble_eq_true rfl) (ztb_of k_274 rfl) rfl d_Ho_doWhatIsDue_150 (fun _ _ _ h => h) (t_Ho_ok 12 (Nat.le_of_ble_eq_true rfl)) rfl rfl hs 0 rfl (Nat.le_of_ble_eq_true rfl) fun ws hs => ?_
      refine zo_return (i := i_Ho_doWhatIsDue) (pc := 153) hq d_Ho_doWhatIsDue_153 rfl (Nat.le_of_ble_eq_true rfl) (Nat.le_of_ble_eq_true rfl) ?_
      refine k m1 m2 m3 m4 ws ?_
      unfold dueS
      rw [if_pos ⟨by first | exact h132 | exact Decidable.not_not.mp h132, h140⟩]
      exact hs
theorem w_due_44 {x0 : zX} {g : zG} {post : Option Value → va_W → Prop} {A : Nat → Nat} {s : hSc} {u : hOu} {ow : hLi zOD} {nb : hLi zND} {ro pf pa : hLi zTD} {hd : hHd} {R : va_W} (hq : zQ x0 g i_Ho_doWhatIsDue post) (h1 : hok 5 ow) (h2 : hok 6 nb) (h3 : hok 3 ro) (h4 : hok 4 pf) (h5 : hok 4 pa) (k : ∀ m1 m2 m3 m4 w, zHas w (hL g A (dueS s (zgw s.2.1 (nb.2.map (fNb s.2.1)))) (uNb s.2.1 nb.2 u) ow ((nb.1.1, m1), (nb.2.map (fNb s.2.1)).filter (fun e => !zgone s.2.1 e.2)) ((ro.1.1, m2), ro.2.filter (fun e => decide (s.2.1 < e.2.2.1))) ((pf.1.1, m3), pf.2.filter (fun e => decide (s.2.1 < e.2.2.1))) ((pa.1.1, m4), pa.2.filter (fun e => decide (s.2.1 < e.2.2.1))) hd R).flatten → post none w) : ∀ (n i : Nat) (ws : va_W), i + n = nb.2.length → zHas ws (hL g A s (uNb s.2.1 (nb.2.take i) u) ow (nb.1, zmi (fNb s.2.1) nb.2 i) ro pf pa hd R).flatten → zW x0 g i_Ho_doWhatIsDue 44 [some (.ref (A 0)), some (.int (nI i))] [] ws 0 0 := by
  intro n
  induction n with
  | zero =>
    intro i ws hi hs
    have hl6 := h2.2
    have hz := zmi_len (fNb s.2.1) nb.2 i
    have hx : (nb.1, zmi (fNb s.2.1) nb.2 i).1.1 = none → (nb.1, zmi (fNb s.2.1) nb.2 i).2 = [] := fun q => List.length_eq_zero_iff.mp (hz.trans (by rw [h2.1 q]; rfl))
    refine zo_iload_n (i := i_Ho_doWhatIsDue) (pc := 44) d_Ho_doWhatIsDue_44 rfl ?_
    refine zo_aload_n (i := i_Ho_doWhatIsDue) (pc := 45) d_Ho_doWhatIsDue_45 rfl rfl ?_
    refine zo_get (i := i_Ho_doWhatIsDue) (pc := 46) 9 3 rfl zok_Ho (Nat.le_of_ble_eq_true rfl) (ztb_of k_265 rfl) d_Ho_doWhatIsDue_46 (fun _ _ _ h => h) (hs.get (t := 0) rfl) rfl ?_
    refine zc_VN0 (i := i_Ho_doWhatIsDue) (pc := 49) 3 rfl m_Nr_length (ztb_of k_465 rfl) (ztb_of k_467 rfl) s_Nr_length d_Ho_doWhatIsDue_49 (Nat.le_of_ble_eq_true rfl) (Nat.le_of_ble_eq_true rfl) (Nat.le_of_ble_eq_true rfl) (Nat.le_of_ble_eq_true rfl) ((hs.pick 3 rfl).get (t := 0) rfl) (c_Nr_length (hs.pick 3 rfl) hx (by show (zmi _ _ _).length ≤ 10; omega) ?_)
    refine zo_icmp_ge (i := i_Ho_doWhatIsDue) (pc := 52) (tgt := 73) d_Ho_doWhatIsDue_52 (by decide) (fun h52 => ?_) (fun h52 => False.elim (by first | exact absurd h52 (by show nI (zmi _ _ _).length ≤ _; rw [hz]; exact nI_le (by omega) (by omega)) | exact absurd (by show nI (zmi _ _ _).length ≤ _; rw [hz]; exact nI_le (by omega) (by omega)) h52))
    refine w_due_73 hq h1 (nb := (nb.1, zmi (fNb s.2.1) nb.2 i)) ⟨hx, by show (zmi _ _ _).length ≤ 6; omega⟩ h3 h4 h5 hs ?_
    have ei : i = nb.2.length := by omega
    subst ei
    rw [zmi_n, List.take_length]
    exact k
  | succ n ih =>
    intro i ws hi hs
    have hl6 := h2.2
    have hz := zmi_len (fNb s.2.1) nb.2 i
    have hx : (nb.1, zmi (fNb s.2.1) nb.2 i).1.1 = none → (nb.1, zmi (fNb s.2.1) nb.2 i).2 = [] := fun q => List.length_eq_zero_iff.mp (hz.trans (by rw [h2.1 q]; rfl))
    obtain ⟨e, he⟩ := zidx (els := nb.2) (i := i) (by omega)
    refine zo_iload_n (i := i_Ho_doWhatIsDue) (pc := 44) d_Ho_doWhatIsDue_44 rfl ?_
    refine zo_aload_n (i := i_Ho_doWhatIsDue) (pc := 45) d_Ho_doWhatIsDue_45 rfl rfl ?_
    refine zo_get (i := i_Ho_doWhatIsDue) (pc := 46) 9 3 rfl zok_Ho (Nat.le_of_ble_eq_true rfl) (ztb_of k_265 rfl) d_Ho_doWhatIsDue_46 (fun _ _ _ h => h) (hs.get (t := 0) rfl) rfl ?_
    refine zc_VN0 (i := i_Ho_doWhatIsDue) (pc := 49) 3 rfl m_Nr_length (ztb_of k_465 rfl) (ztb_of k_467 rfl) s_Nr_length d_Ho_doWhatIsDue_49 (Nat.le_of_ble_eq_true rfl) (Nat.le_of_ble_eq_true rfl) (Nat.le_of_ble_eq_true rfl) (Nat.le_of_ble_eq_true rfl) ((hs.pick 3 rfl).get (t := 0) rfl) (c_Nr_length (hs.pick 3 rfl) hx (by show (zmi _ _ _).length ≤ 10; omega) ?_)
    refine zo_icmp_ge (i := i_Ho_doWhatIsDue) (pc := 52) (tgt := 73) d_Ho_doWhatIsDue_52 (by decide) (fun h52 => False.elim (by first | exact absurd h52 (by show ¬ nI (zmi _ _ _).length ≤ _; rw [hz]; exact nI_ge (by omega) (by omega)) | exact absurd (by show ¬ nI (zmi _ _ _).length ≤ _; rw [hz]; exact nI_ge (by omega) (by omega)) h52)) (fun h52 => ?_)
    refine zo_aload_n (i := i_Ho_doWhatIsDue) (pc := 55) d_Ho_doWhatIsDue_55 rfl rfl ?_
    refine zo_aload_n (i := i_Ho_doWhatIsDue) (pc := 56) d_Ho_doWhatIsDue_56 rfl rfl ?_
    refine zo_get (i := i_Ho_doWhatIsDue) (pc := 57) 9 3 rfl zok_Ho (Nat.le_of_ble_eq_true rfl) (ztb_of k_265 rfl) d_Ho_doWhatIsDue_57 (fun _ _ _ h => h) (hs.get (t := 0) rfl) rfl ?_
    refine zo_iload_n (i := i_Ho_doWhatIsDue) (pc := 60) d_Ho_doWhatIsDue_60 rfl ?_
    refine zc_VN1 (i := i_Ho_doWhatIsDue) (pc := 61) 3 rfl m_Nr_at (ztb_of k_469 rfl) (ztb_of k_471 rfl) s_Nr_at d_Ho_doWhatIsDue_61 (Nat.le_of_ble_eq_true rfl) (Nat.le_of_ble_eq_true rfl) (Nat.le_of_ble_eq_true rfl) (Nat.le_of_ble_eq_true rfl) ((hs.pick 3 rfl).get (t := 0) rfl) (c_Nr_at (hs.pick 3 rfl) hx (by show (zmi _ _ _).length ≤ 10; omega) (zmi_at he) ?_)
    refine zc_V1 (i := i_Ho_doWhatIsDue) (pc := 64) 9 rfl m_Ho_ageNeighbour (ztb_of k_473 rfl) (ztb_of k_475 rfl) s_Ho_ageNeighbour d_Ho_doWhatIsDue_64 (Nat.le_of_ble_eq_true rfl) (Nat.le_of_ble_eq_true rfl) (Nat.le_of_ble_eq_true rfl) (Nat.le_of_ble_eq_true rfl) (hs.get (t := 0) rfl) (c_Ho_ageNeighbour (hv_nb hs (zmi_at he)) fun ws hs => ?_)
    refine zo_iinc (i := i_Ho_doWhatIsDue) (pc := 67) (v := nI (i + 1)) d_Ho_doWhatIsDue_67 rfl (nI_inc i) (Nat.le_of_ble_eq_true rfl) ?_
    refine zo_goto (i := i_Ho_doWhatIsDue) (pc := 70) (tgt := 44) d_Ho_doWhatIsDue_70 (by decide) ?_
    refine ih (i + 1) ws (by omega) ?_
    replace hs := hu_nb (nb := (nb.1, zmi (fNb s.2.1) nb.2 i)) (zmi_at he) hs
    have e1 : uNb s.2.1 (nb.2.take (i + 1)) u = _ := foldl_cut he
    rw [e1, ← zmi_set he]
    exact hs
theorem w_due_13 {x0 : zX} {g : zG} {post : Option Value → va_W → Prop} {A : Nat → Nat} {s : hSc} {u : hOu} {ow : hLi zOD} {nb : hLi zND} {ro pf pa : hLi zTD} {hd : hHd} {R : va_W} (hq : zQ x0 g i_Ho_doWhatIsDue post) (h1 : hok 5 ow) (h2 : hok 6 nb) (h3 : hok 3 ro) (h4 : hok 4 pf) (h5 : hok 4 pa) (k : ∀ m1 m2 m3 m4 w, zHas w (hL g A (dueS s (zgw s.2.1 (nb.2.map (fNb s.2.1)))) (uNb s.2.1 nb.2 (uOw s.2.1 ow.2 u)) (ow.1, ow.2.map (fOw s.2.1)) ((nb.1.1, m1), (nb.2.map (fNb s.2.1)).filter (fun e => !zgone s.2.1 e.2)) ((ro.1.1, m2), ro.2.filter (fun e => decide (s.2.1 < e.2.2.1))) ((pf.1.1, m3), pf.2.filter (fun e => decide (s.2.1 < e.2.2.1))) ((pa.1.1, m4), pa.2.filter (fun e => decide (s.2.1 < e.2.2.1))) hd R).flatten → post none w) : ∀ (n i : Nat) (ws : va_W), i + n = ow.2.length → zHas ws (hL g A s (uOw s.2.1 (ow.2.take i) u) (ow.1, zmi (fOw s.2.1) ow.2 i) nb ro pf pa hd R).flatten → zW x0 g i_Ho_doWhatIsDue 13 [some (.ref (A 0)), some (.int (nI i))] [] ws 0 0 := by
  intro n
  induction n with
  | zero =>
    intro i ws hi hs
    have hl6 := h1.2
    have hz := zmi_len (fOw s.2.1) ow.2 i
    have hx : (ow.1, zmi (fOw s.2.1) ow.2 i).1.1 = none → (ow.1, zmi (fOw s.2.1) ow.2 i).2 = [] := fun q => List.length_eq_zero_iff.mp (hz.trans (by rw [h1.1 q]; rfl))
    refine zo_iload_n (i := i_Ho_doWhatIsDue) (pc := 13) d_Ho_doWhatIsDue_13 rfl ?_
    refine zo_aload_n (i := i_Ho_doWhatIsDue) (pc := 14) d_Ho_doWhatIsDue_14 rfl rfl ?_
    refine zo_get (i := i_Ho_doWhatIsDue) (pc := 15) 9 2 rfl zok_Ho (Nat.le_of_ble_eq_true rfl) (ztb_of k_264 rfl) d_Ho_doWhatIsDue_15 (fun _ _ _ h => h) (hs.get (t := 0) rfl) rfl ?_
    refine zc_VN0 (i := i_Ho_doWhatIsDue) (pc := 18) 6 rfl m_Or_length (ztb_of k_453 rfl) (ztb_of k_455 rfl) s_Or_length d_Ho_doWhatIsDue_18 (Nat.le_of_ble_eq_true rfl) (Nat.le_of_ble_eq_true rfl) (Nat.le_of_ble_eq_true rfl) (Nat.le_of_ble_eq_true rfl) ((hs.pick 2 rfl).get (t := 0) rfl) (c_Or_length (hs.pick 2 rfl) hx (by show (zmi _ _ _).length ≤ 10; omega) ?_)
    refine zo_icmp_ge (i := i_Ho_doWhatIsDue) (pc := 21) (tgt := 42) d_Ho_doWhatIsDue_21 (by decide) (fun h21 => ?_) (fun h21 => False.elim (by first | exact absurd h21 (by show nI (zmi _ _ _).length ≤ _; rw [hz]; exact nI_le (by omega) (by omega)) | exact absurd (by show nI (zmi _ _ _).length ≤ _; rw [hz]; exact nI_le (by omega) (by omega)) h21))
    refine zo_iconst (i := i_Ho_doWhatIsDue) (pc := 42) (v := 0) d_Ho_doWhatIsDue_42 (by decide) ?_
    refine zo_istore_n (i := i_Ho_doWhatIsDue) (pc := 43) d_Ho_doWhatIsDue_43 (Nat.le_of_ble_eq_true rfl) ?_
    have ei : i = ow.2.length := by omega
    subst ei
    rw [zmi_n, List.take_length] at hs
    exact w_due_44 hq (ow := (ow.1, ow.2.map (fOw s.2.1))) ⟨fun q => by show ow.2.map _ = []; rw [h1.1 q]; rfl, by show (ow.2.map _).length ≤ 5; rw [List.length_map]; exact hl6⟩ h2 h3 h4 h5 k nb.2.length 0 ws (by omega) hs
  | succ n ih =>
    intro i ws hi hs
    have hl6 := h1.2
    have hz := zmi_len (fOw s.2.1) ow.2 i
    have hx : (ow.1, zmi (fOw s.2.1) ow.2 i).1.1 = none → (ow.1, zmi (fOw s.2.1) ow.2 i).2 = [] := fun q => List.length_eq_zero_iff.mp (hz.trans (by rw [h1.1 q]; rfl))
    obtain ⟨e, he⟩ := zidx (els := ow.2) (i := i) (by omega)
    refine zo_iload_n (i := i_Ho_doWhatIsDue) (pc := 13) d_Ho_doWhatIsDue_13 rfl ?_
    refine zo_aload_n (i := i_Ho_doWhatIsDue) (pc := 14) d_Ho_doWhatIsDue_14 rfl rfl ?_
    refine zo_get (i := i_Ho_doWhatIsDue) (pc := 15) 9 2 rfl zok_Ho (Nat.le_of_ble_eq_true rfl) (ztb_of k_264 rfl) d_Ho_doWhatIsDue_15 (fun _ _ _ h => h) (hs.get (t := 0) rfl) rfl ?_
    refine zc_VN0 (i := i_Ho_doWhatIsDue) (pc := 18) 6 rfl m_Or_length (ztb_of k_453 rfl) (ztb_of k_455 rfl) s_Or_length d_Ho_doWhatIsDue_18 (Nat.le_of_ble_eq_true rfl) (Nat.le_of_ble_eq_true rfl) (Nat.le_of_ble_eq_true rfl) (Nat.le_of_ble_eq_true rfl) ((hs.pick 2 rfl).get (t := 0) rfl) (c_Or_length (hs.pick 2 rfl) hx (by show (zmi _ _ _).length ≤ 10; omega) ?_)
    refine zo_icmp_ge (i := i_Ho_doWhatIsDue) (pc := 21) (tgt := 42) d_Ho_doWhatIsDue_21 (by decide) (fun h21 => False.elim (by first | exact absurd h21 (by show ¬ nI (zmi _ _ _).length ≤ _; rw [hz]; exact nI_ge (by omega) (by omega)) | exact absurd (by show ¬ nI (zmi _ _ _).length ≤ _; rw [hz]; exact nI_ge (by omega) (by omega)) h21)) (fun h21 => ?_)
    refine zo_aload_n (i := i_Ho_doWhatIsDue) (pc := 24) d_Ho_doWhatIsDue_24 rfl rfl ?_
    refine zo_aload_n (i := i_Ho_doWhatIsDue) (pc := 25) d_Ho_doWhatIsDue_25 rfl rfl ?_
    refine zo_get (i := i_Ho_doWhatIsDue) (pc := 26) 9 2 rfl zok_Ho (Nat.le_of_ble_eq_true rfl) (ztb_of k_264 rfl) d_Ho_doWhatIsDue_26 (fun _ _ _ h => h) (hs.get (t := 0) rfl) rfl ?_
    refine zo_iload_n (i := i_Ho_doWhatIsDue) (pc := 29) d_Ho_doWhatIsDue_29 rfl ?_
    refine zc_VN1 (i := i_Ho_doWhatIsDue) (pc := 30) 6 rfl m_Or_at (ztb_of k_457 rfl) (ztb_of k_459 rfl) s_Or_at d_Ho_doWhatIsDue_30 (Nat.le_of_ble_eq_true rfl) (Nat.le_of_ble_eq_true rfl) (Nat.le_of_ble_eq_true rfl) (Nat.le_of_ble_eq_true rfl) ((hs.pick 2 rfl).get (t := 0) rfl) (c_Or_at (hs.pick 2 rfl) hx (by show (zmi _ _ _).length ≤ 10; omega) (zmi_at he) ?_)
    refine zc_V1 (i := i_Ho_doWhatIsDue) (pc := 33) 9 rfl m_Ho_ageOwn (ztb_of k_461 rfl) (ztb_of k_463 rfl) s_Ho_ageOwn d_Ho_doWhatIsDue_33 (Nat.le_of_ble_eq_true rfl) (Nat.le_of_ble_eq_true rfl) (Nat.le_of_ble_eq_true rfl) (Nat.le_of_ble_eq_true rfl) (hs.get (t := 0) rfl) (c_Ho_ageOwn (hv_ow hs (zmi_at he)) fun ws hs => ?_)
    refine zo_iinc (i := i_Ho_doWhatIsDue) (pc := 36) (v := nI (i + 1)) d_Ho_doWhatIsDue_36 rfl (nI_inc i) (Nat.le_of_ble_eq_true rfl) ?_
    refine zo_goto (i := i_Ho_doWhatIsDue) (pc := 39) (tgt := 13) d_Ho_doWhatIsDue_39 (by decide) ?_
    refine ih (i + 1) ws (by omega) ?_
    replace hs := hu_ow (ow := (ow.1, zmi (fOw s.2.1) ow.2 i)) (zmi_at he) hs
    have e1 : uOw s.2.1 (ow.2.take (i + 1)) u = _ := foldl_cut he
    rw [e1, ← zmi_set he]
    exact hs
theorem c_Ho_doWhatIsDue {g : zG} {ws : va_W} {post : Option Value → va_W → Prop} {A : Nat → Nat} {s : hSc} {u : hOu} {ow : hLi zOD} {nb : hLi zND} {ro pf pa : hLi zTD} {hd : hHd} {R : va_W} (h1 : hok 5 ow) (h2 : hok 6 nb) (h3 : hok 3 ro) (h4 : hok 4 pf) (h5 : hok 4 pa) (hs : zHas ws (hL g A s u ow nb ro pf pa hd R).flatten) (k : ∀ m0 m1 m2 m3 m4 w, zHas w (hL g A (dueS s (zgw s.2.1 (nb.2.map (fNb s.2.1)))) (uNb s.2.1 nb.2 (uOw s.2.1 (ow.2.filter (fun e => decide (s.2.1 < e.2.2.2.2.1))) u)) ((ow.1.1, m0), (ow.2.filter (fun e => decide (s.2.1 < e.2.2.2.2.1))).map (fOw s.2.1)) ((nb.1.1, m1), (nb.2.map (fNb s.2.1)).filter (fun e => !zgone s.2.1 e.2)) ((ro.1.1, m2), ro.2.filter (fun e => decide (s.2.1 < e.2.2.1))) ((pf.1.1, m3), pf.2.filter (fun e => decide (s.2.1 < e.2.2.1))) ((pa.1.1, m4), pa.2.filter (fun e => decide (s.2.1 < e.2.2.1))) hd R).flatten → post none w) : zC g i_Ho_doWhatIsDue [.ref (A 0)] ws post := by
  refine zC.intro (by decide +kernel) rfl (Nat.le_of_ble_eq_true rfl) fun x0 hq => ?_
  refine zo_aload_n (i := i_Ho_doWhatIsDue) (pc := 0) d_Ho_doWhatIsDue_0 rfl rfl ?_
  refine zo_get (i := i_Ho_doWhatIsDue) (pc := 1) 9 2 rfl zok_Ho (Nat.le_of_ble_eq_true rfl) (ztb_of k_264 rfl) d_Ho_doWhatIsDue_1 (fun _ _ _ h => h) (hs.get (t := 0) rfl) rfl ?_
  refine zo_aload_n (i := i_Ho_doWhatIsDue) (pc := 4) d_Ho_doWhatIsDue_4 rfl rfl ?_
  refine zo_get (i := i_Ho_doWhatIsDue) (pc := 5) 9 8 rfl zok_Ho (Nat.le_of_ble_eq_true rfl) (ztb_of k_270 rfl) d_Ho_doWhatIsDue_5 (fun _ _ _ h => h) (hs.get (t := 0) rfl) rfl ?_
  refine zc_VN1 (i := i_Ho_doWhatIsDue) (pc := 8) 6 rfl m_Or_expire (ztb_of k_437 rfl) (ztb_of k_439 rfl) s_Or_expire d_Ho_doWhatIsDue_8 (Nat.le_of_ble_eq_true rfl) (Nat.le_of_ble_eq_true rfl) (Nat.le_of_ble_eq_true rfl) (Nat.le_of_ble_eq_true rfl) ((hs.pick 2 rfl).get (t := 0) rfl) (c_Or_expire (hs.pick 2 rfl) h1.1 (Nat.le_trans h1.2 (by decide)) fun m0 ws hs => ?_)
  replace hs : zHas ws (hL g A s u ((ow.1.1, m0), ow.2.filter (fun e => decide (s.2.1 < e.2.2.2.2.1))) nb ro pf pa hd R).flatten := zHas.back (cs := hL g A s u ow nb ro pf pa hd R) 2 rfl hs
  refine zo_iconst (i := i_Ho_doWhatIsDue) (pc := 11) (v := 0) d_Ho_doWhatIsDue_11 (by decide) ?_
  refine zo_istore_n (i := i_Ho_doWhatIsDue) (pc := 12) d_Ho_doWhatIsDue_12 (Nat.le_of_ble_eq_true rfl) ?_
  exact w_due_13 hq (ow := ((ow.1.1, m0), ow.2.filter (fun e => decide (s.2.1 < e.2.2.2.2.1)))) ⟨fun q => by show ow.2.filter _ = []; rw [h1.1 q]; rfl, Nat.le_trans (List.length_filter_le _ _) h1.2⟩ h2 h3 h4 h5 (k m0) _ 0 ws (by show 0 + _ = _; rw [Nat.zero_add]) hs
