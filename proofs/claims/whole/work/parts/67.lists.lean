/-! The model by states: its small methods, of the class's states. -/
section ZLists
/-- the world holds the model in this state, with this code of its last call, and R -/
def mS (g : zG) (B : Nat → Nat) (q : hT) (t : Int32) (R ws : va_W) : Prop := ∃ (m : Nat → Int32) (F : Nat → Nat → Int32), mR q t m F ∧ zHas ws (moW g B m F ++ R)
theorem len_of {α : Type} {l : List α} {j : Nat} {x : α} (h : l[j]? = some x) : j < l.length := (List.getElem?_eq_some_iff.mp h).1
theorem vnar_zb (b : Bool) : vp_nar .boolean (zb b) = zb b := by cases b <;> decide
theorem tE_self {q : hT} {c : Nat} (hc : c < 3) : tE q c (ent q c) = q := by
  have h1 : c = 0 ∨ c = 1 ∨ c = 2 := by omega
  rcases h1 with rfl | rfl | rfl <;> rfl
theorem tE_tE {q : hT} {c : Nat} {l l' : List zTD} (hc : c < 3) : tE (tE q c l) c l' = tE q c l' := by
  have h1 : c = 0 ∨ c = 1 ∨ c = 2 := by omega
  rcases h1 with rfl | rfl | rfl <;> rfl
theorem nd_erase {a : Int32} : ∀ {l : List zTD} {j : Nat} {x : zTD}, nd l → l[j]? = some x → x.1 = a → l.eraseIdx j = l.filter (fun e => !decide (e.1 = a))
  | [], j, x, _, h, _ => by simp at h
  | e :: r, 0, x, hn, h, hx => by
    rw [List.getElem?_cons_zero] at h
    cases h
    rw [List.eraseIdx_cons_zero, List.filter_cons_of_neg (by simp [hx])]
    unfold nd at hn
    rw [List.map_cons, List.nodup_cons] at hn
    refine (List.filter_eq_self.mpr ?_).symm
    intro y hy
    rw [Bool.not_eq_true', decide_eq_false_iff_not]
    intro hya
    exact hn.1 (List.mem_map.mpr ⟨y, hy, by rw [hya, hx]⟩)
  | e :: r, j + 1, x, hn, h, hx => by
    rw [List.getElem?_cons_succ] at h
    unfold nd at hn
    rw [List.map_cons, List.nodup_cons] at hn
    have he : ¬ e.1 = a := fun hea => hn.1 (List.mem_map.mpr ⟨x, List.mem_of_getElem? h, by rw [hx, hea]⟩)
    rw [List.eraseIdx_cons_succ, List.filter_cons_of_pos (by simp [he]), nd_erase hn.2 h hx]
theorem none_filter {a : Int32} {l : List zTD} (h : l.find? (fun e => decide (e.1 = a)) = none) : l.filter (fun e => !decide (e.1 = a)) = l := by
  refine List.filter_eq_self.mpr ?_
  intro y hy
  have := List.find?_eq_none.mp h y hy
  simpa using this
end ZLists
section ZLists2
variable {g : zG} {ws : va_W} {post : Option Value → va_W → Prop} {B : Nat → Nat} {q : hT} {t : Int32} {R : va_W}
theorem l_thrown (h : mS g B q t R ws) (k : post (some (.int t)) ws) : zC g i_Mo_thrown [.ref (B 0)] ws post := by
  obtain ⟨m, F, hr, hs⟩ := h
  refine c_Mo_thrown hs ?_
  rw [hr.1.1]
  exact k
theorem l_out (h : mS g B q t R ws) (hu : q.2.1.1 < 2147483648) {a b c : Int32} (k : ∀ w, mS g B (tU q (ouAdd q.2.1 a b c)) t R w → post none w) : zC g i_Mo_out [.ref (B 0), .int a, .int b, .int c] ws post := by
  obtain ⟨m, F, hr, hs⟩ := h
  exact c_Mo_out hs hr.2.1.1 hu fun w hw => k w ⟨_, _, hr.out, hw⟩
theorem l_turn (h : mS g B q t R ws) {j : Nat} {x : zND} {s : Int32} (hx : q.2.2.2.1[j]? = some x) (k : ∀ w, mS g B (tN q (q.2.2.2.1.set j (ndS x s q.1.2.1))) t R w → post none w) : zC g i_Mo_turn [.ref (B 0), .int (nI j), .int s] ws post := by
  obtain ⟨m, F, hr, hs⟩ := h
  have h1 := len_of hx
  have h2 := hr.2.2.2.1.2.1
  exact c_Mo_turn hs (by omega) fun w hw => k w ⟨_, _, hr.turn hx, hw⟩
theorem l_ask (h : mS g B q t R ws) (hu : q.2.1.1 < 2147483648) {j : Nat} {x : zND} (hx : q.2.2.2.1[j]? = some x) (k : ∀ w, mS g B (tU q (ouAdd q.2.1 2 (askTo x) x.1)) t R w → post none w) : zC g i_Mo_ask [.ref (B 0), .int (nI j)] ws post := by
  obtain ⟨m, F, hr, hs⟩ := h
  have h1 := len_of hx
  have h2 := hr.2.2.2.1.2.1
  refine c_Mo_ask hs (by omega) hr.2.1.1 hu fun w hw => k w ?_
  rw [hr.2.2.2.1.2.2.2.2.2.2.1 j x hx, hr.2.2.2.1.2.2.2.1 j x hx] at hw
  exact ⟨_, _, hr.out, hw⟩
theorem l_form (h : mS g B q t R ws) (hu : q.2.1.1 < 2147483648) (hl : q.2.2.1.length < 5) {p v r : Int32} (hv : q.1.2.1 + v ≠ 2147483647) (hp : q.1.2.1 + r ≠ 2147483647) (k : ∀ w, mS g B (formT q p (zend q.1.2.1 v) (zend q.1.2.1 r)) t R w → post none w) : zC g i_Mo_form [.ref (B 0), .int p, .int v, .int r] ws post := by
  obtain ⟨m, F, hr, hs⟩ := h
  refine c_Mo_form hs hr.2.2.1.1 (by omega) hr.2.1.1 hu fun w hw => k w ?_
  have h1 : mR (tO q (q.2.2.1 ++ [(256 * p + q.1.1, q.1.2.1, 1, zend q.1.2.1 v, zend q.1.2.1 r)])) t _ _ := hr.pushOwn (a := 256 * p + q.1.1) rfl hl (cv_end hp).symm (cv_end hv).symm
  have h2 := h1.out (a := 1) (b := 65535) (c := 256 * p + q.1.1)
  rw [hr.1.2.1, hr.1.2.2.1] at hw
  refine ⟨_, _, h2, ?_⟩
  rw [hr.1.2.2.1]
  exact hw
theorem l_ownAt (h : mS g B q t R ws) {a : Int32} (k0 : ∀ (j : Nat) (x : zOD), q.2.2.1[j]? = some x → x.1 = a → q.2.2.1.find? (fun e => decide (e.1 = a)) = some x → (∀ f : zOD → zOD, zset1 (fun e => decide (e.1 = a)) f q.2.2.1 = q.2.2.1.set j (f x)) → post (some (.int (nI j))) ws) (k1 : q.2.2.1.find? (fun e => decide (e.1 = a)) = none → post (some (.int (-1))) ws) : zC g i_Mo_ownAt [.ref (B 0), .int a] ws post := by
  obtain ⟨m, F, hr, hs⟩ := h
  have h2 := hr.2.2.1.2.1
  refine c_Mo_ownAt hs hr.2.2.1.1 (by omega) (fun j hj he hno => ?_) (fun hno => k1 (none_of hr.2.2.1.2.2.1 hno))
  obtain ⟨x, a1, a2, a3, a4, a5⟩ := first_of hr.2.2.1.2.2.1 hj he hno
  exact k0 j x a1 a2 a3 a4
theorem l_nbAt (h : mS g B q t R ws) {a : Int32} (k0 : ∀ (j : Nat) (x : zND), q.2.2.2.1[j]? = some x → x.1 = a → q.2.2.2.1.find? (fun e => decide (e.1 = a)) = some x → (∀ f : zND → zND, zset1 (fun e => decide (e.1 = a)) f q.2.2.2.1 = q.2.2.2.1.set j (f x)) → (∀ y ∈ q.2.2.2.1.take j, decide (y.1 = a) = false) → post (some (.int (nI j))) ws) (k1 : q.2.2.2.1.find? (fun e => decide (e.1 = a)) = none → post (some (.int (-1))) ws) : zC g i_Mo_neighbourAt [.ref (B 0), .int a] ws post := by
  obtain ⟨m, F, hr, hs⟩ := h
  have h2 := hr.2.2.2.1.2.1
  refine c_Mo_neighbourAt hs hr.2.2.2.1.1 (by omega) (fun j hj he hno => ?_) (fun hno => k1 (none_of hr.2.2.2.1.2.2.2.1 hno))
  obtain ⟨x, a1, a2, a3, a4, a5⟩ := first_of hr.2.2.2.1.2.2.2.1 hj he hno
  exact k0 j x a1 a2 a3 a4 a5
theorem l_entryAt (h : mS g B q t R ws) {c : Nat} (hc : c < 3) {a : Int32} (k0 : ∀ (j : Nat) (x : zTD), (ent q c)[j]? = some x → x.1 = a → (ent q c).find? (fun e => decide (e.1 = a)) = some x → (∀ f : zTD → zTD, zset1 (fun e => decide (e.1 = a)) f (ent q c) = (ent q c).set j (f x)) → post (some (.int (nI (8 * c + j)))) ws) (k1 : (ent q c).find? (fun e => decide (e.1 = a)) = none → post (some (.int (-1))) ws) : zC g i_Mo_entryAt [.ref (B 0), .int (nI c), .int a] ws post := by
  obtain ⟨m, F, hr, hs⟩ := h
  obtain ⟨g1, g2, g3, g4, g5⟩ := hr.2.2.2.2.1 c hc
  have hcap := cap_le c
  refine c_Mo_entryAt hs hc g1 (by omega) (fun j hj he hno => ?_) (fun hno => k1 (none_of g3 hno))
  obtain ⟨x, a1, a2, a3, a4, a5⟩ := first_of g3 hj he hno
  exact k0 j x a1 a2 a3 a4
theorem l_dropOwn (h : mS g B q t R ws) {i : Nat} (hi : i < q.2.2.1.length) (k : ∀ w, mS g B (tO q (q.2.2.1.eraseIdx i)) t R w → post none w) : zC g i_Mo_dropOwn [.ref (B 0), .int (nI i)] ws post := by
  obtain ⟨m, F, hr, hs⟩ := h
  have h2 := hr.2.2.1.2.1
  obtain ⟨n, hn⟩ : ∃ n, q.2.2.1.length = n + 1 := ⟨q.2.2.1.length - 1, by omega⟩
  exact c_Mo_dropOwn hs (by rw [← hn]; exact hr.2.2.1.1) (by omega) (by omega) fun w hw => k w ⟨_, _, hr.dropOwn hn (by omega), hw⟩
theorem l_dropNb (h : mS g B q t R ws) {i : Nat} (hi : i < q.2.2.2.1.length) (k : ∀ w, mS g B (tN q (q.2.2.2.1.eraseIdx i)) t R w → post none w) : zC g i_Mo_dropNeighbour [.ref (B 0), .int (nI i)] ws post := by
  obtain ⟨m, F, hr, hs⟩ := h
  have h2 := hr.2.2.2.1.2.1
  obtain ⟨n, hn⟩ : ∃ n, q.2.2.2.1.length = n + 1 := ⟨q.2.2.2.1.length - 1, by omega⟩
  exact c_Mo_dropNeighbour hs (by rw [← hn]; exact hr.2.2.2.1.1) (by omega) (by omega) hr.2.2.2.1.2.2.1 fun w hw => k w ⟨_, _, hr.dropNb hn (by omega) (fun t => shf_nar hr.2.2.2.1.2.2.1), hw⟩
theorem l_dropEntry (h : mS g B q t R ws) {c : Nat} (hc : c < 3) {i : Nat} (hi : i < (ent q c).length) (k : ∀ w, mS g B (tE q c ((ent q c).eraseIdx i)) t R w → post none w) : zC g i_Mo_dropEntry [.ref (B 0), .int (nI c), .int (nI (8 * c + i))] ws post := by
  obtain ⟨m, F, hr, hs⟩ := h
  obtain ⟨g1, g2, g3, g4, g5⟩ := hr.2.2.2.2.1 c hc
  have hcap := cap_le c
  obtain ⟨n, hn⟩ : ∃ n, (ent q c).length = n + 1 := ⟨(ent q c).length - 1, by omega⟩
  exact c_Mo_dropEntry hs hc (by rw [← hn]; exact g1) (by omega) (by omega) fun w hw => k w ⟨_, _, hr.entryDrop hc hn (by omega), hw⟩
theorem l_makeNb (h : mS g B q t R ws) {a s b : Int32} (k : ∀ w, mS g B (tN q (zcap 6 q.2.2.2.1 ++ [(a, b, s, q.1.2.1, false, 0)])) t R w → post (some (.int (nI (zcap 6 q.2.2.2.1).length))) w) : zC g i_Mo_makeNeighbour [.ref (B 0), .int a, .int s, .int b] ws post := by
  obtain ⟨m, F, hr, hs⟩ := h
  have h2 := hr.2.2.2.1.2.1
  by_cases h6 : q.2.2.2.1.length = 6
  · have hz : zcap 6 q.2.2.2.1 = q.2.2.2.1.eraseIdx 0 := by unfold zcap; rw [if_pos (by omega)]
    have hl : (q.2.2.2.1.eraseIdx 0).length = 5 := by rw [List.length_eraseIdx_of_lt (by omega), h6]
    rw [hz, hl] at k
    refine c_Mo_makeNeighbour6 hs (by rw [← h6]; exact hr.2.2.2.1.1) hr.2.2.2.1.2.2.1 fun w hw => k w ?_
    have h1 := hr.dropNb (n := 5) (i := 0) h6 (by omega) (fun t => shf_nar hr.2.2.2.1.2.2.1)
    have h3 := h1.pushNb (n := 5) (a := a) (s := s) (b := b) hl (by omega) (vnar_zb false)
    exact ⟨_, _, h3, hw⟩
  · have hz : zcap 6 q.2.2.2.1 = q.2.2.2.1 := by unfold zcap; rw [if_neg (by omega)]
    rw [hz] at k
    exact c_Mo_makeNeighbour hs hr.2.2.2.1.1 (by omega) fun w hw => k w ⟨_, _, hr.pushNb rfl (by omega) (vnar_zb false), hw⟩
theorem l_sendTo (h : mS g B q t R ws) (hu : q.2.1.1 < 2147483648) {j : Nat} {x : zND} {n : Int32} (hx : q.2.2.2.1[j]? = some x) (k : ∀ w, mS g B (tU (tN q (q.2.2.2.1.set j (ndD q.1.2.1 x))) (ouAdd q.2.1 4 x.1 n)) t R w → post none w) : zC g i_Mo_sendTo [.ref (B 0), .int (nI j), .int n] ws post := by
  obtain ⟨m, F, hr, hs⟩ := h
  have h1 := len_of hx
  have h2 := hr.2.2.2.1.2.1
  have e1 : F 22 j = x.2.2.1 := hr.2.2.2.1.2.2.2.2.2.2.1 j x hx
  have e2 : F 19 j = x.1 := hr.2.2.2.1.2.2.2.1 j x hx
  refine c_Mo_sendTo hs (by omega) hr.2.1.1 hu (fun h3 w hw => k w ?_) (fun h3 w hw => k w ?_)
  · rw [e1] at h3
    rw [e2] at hw
    have hd : ndD q.1.2.1 x = ndS x 4 q.1.2.1 := by unfold ndD; rw [if_pos h3]
    rw [hd]
    have h4 : mR (tU q (ouAdd q.2.1 4 x.1 n)) t _ _ := hr.out
    exact ⟨_, _, h4.turn hx, hw⟩
  · rw [e1] at h3
    rw [e2] at hw
    have hd : ndD q.1.2.1 x = x := by unfold ndD; rw [if_neg h3]
    rw [hd, zset_self hx]
    exact ⟨_, _, hr.out, hw⟩
theorem l_release (h : mS g B q t R ws) (hu : q.2.1.1 < 2147483648) {j : Nat} {x : zND} (hx : q.2.2.2.1[j]? = some x) (h0 : ¬ x.2.2.2.2.2 < 0) (k : ∀ w, mS g B (tU (tN q (q.2.2.2.1.set j (swX q.1.2.1 x))) (swU q.2.1 x)) t R w → post none w) : zC g i_Mo_release [.ref (B 0), .int (nI j)] ws post := by
  obtain ⟨m, F, hr, hs⟩ := h
  have h1 := len_of hx
  have h2 := hr.2.2.2.1.2.1
  have e1 : F 22 j = x.2.2.1 := hr.2.2.2.1.2.2.2.2.2.2.1 j x hx
  have e2 : F 19 j = x.1 := hr.2.2.2.1.2.2.2.1 j x hx
  have e3 : F 24 j = x.2.2.2.2.2 := hr.2.2.2.1.2.2.2.2.2.2.2.2 j x hx
  have hw1 : mR (tN q (q.2.2.2.1.set j (ndW x 0))) t _ _ := hr.waits (v := 0) hx
  have hx1 : (tN q (q.2.2.2.1.set j (ndW x 0))).2.2.2.1[j]? = some (ndW x 0) := by
    show (q.2.2.2.1.set j (ndW x 0))[j]? = _
    rw [List.getElem?_set, if_pos rfl, if_pos h1]
  refine c_Mo_release hs (by omega) hr.2.1.1 hu (fun h4 h3 w hw => k w ?_) (fun h4 h3 w hw => k w ?_) (fun h4 => k ws ?_)
  · rw [e1] at h3
    rw [e3] at h4
    rw [e2, e3] at hw
    have hne : ¬ x.2.2.2.2.2 = 0 := fun e => h4 (by rw [e]; decide)
    have hd : swX q.1.2.1 x = ndS (ndW x 0) 4 q.1.2.1 := by unfold swX ndD; rw [if_neg hne, if_pos h3]; rfl
    have hd2 : swU q.2.1 x = ouAdd q.2.1 4 x.1 x.2.2.2.2.2 := by unfold swU; rw [if_neg hne]
    rw [hd, hd2]
    have h5 : mR (tU (tN q (q.2.2.2.1.set j (ndW x 0))) (ouAdd q.2.1 4 x.1 x.2.2.2.2.2)) t _ _ := hw1.out
    have h6 := h5.turn (s := 4) hx1
    have h7 : (tU (tN q (q.2.2.2.1.set j (ndW x 0))) (ouAdd q.2.1 4 x.1 x.2.2.2.2.2)).2.2.2.1.set j (ndS (ndW x 0) 4 q.1.2.1) = q.2.2.2.1.set j (ndS (ndW x 0) 4 q.1.2.1) := List.set_set ..
    rw [show (tU (tN q (q.2.2.2.1.set j (ndW x 0))) (ouAdd q.2.1 4 x.1 x.2.2.2.2.2)).1.2.1 = q.1.2.1 from rfl, h7] at h6
    exact ⟨_, _, h6, hw⟩
  · rw [e1] at h3
    rw [e3] at h4
    rw [e2, e3] at hw
    have hne : ¬ x.2.2.2.2.2 = 0 := fun e => h4 (by rw [e]; decide)
    have hd : swX q.1.2.1 x = ndW x 0 := by unfold swX ndD; rw [if_neg hne, if_neg h3]
    have hd2 : swU q.2.1 x = ouAdd q.2.1 4 x.1 x.2.2.2.2.2 := by unfold swU; rw [if_neg hne]
    rw [hd, hd2]
    exact ⟨_, _, hw1.out, hw⟩
  · rw [e3] at h4
    have he : x.2.2.2.2.2 = 0 := Int32.le_antisymm h4 (Int32.not_lt.mp h0)
    have hd : swX q.1.2.1 x = x := by unfold swX; rw [if_pos he]
    have hd2 : swU q.2.1 x = q.2.1 := by unfold swU; rw [if_pos he]
    rw [hd, hd2, zset_self hx]
    exact ⟨_, _, hr, hs⟩
theorem l_leave (h : mS g B q t R ws) {c : Nat} (hc : c < 3) {a : Int32} (hn : nd (ent q c)) (k : ∀ w, mS g B (tE q c ((ent q c).filter (fun e => !decide (e.1 = a)))) t R w → post none w) : zC g i_Mo_leave [.ref (B 0), .int (nI c), .int a] ws post := by
  obtain ⟨m, F, hr, hs⟩ := h
  obtain ⟨g1, g2, g3, g4, g5⟩ := hr.2.2.2.2.1 c hc
  have hcap := cap_le c
  refine c_Mo_leave hs hc g1 (by omega) (fun n1 j e hj he hno w hw => k w ?_) (fun hno => k ws ?_)
  · obtain ⟨x, a1, a2, a3, a4, a5⟩ := first_of g3 hj he hno
    rw [← nd_erase hn a1 a2]
    exact ⟨_, _, hr.entryDrop hc e (by omega), hw⟩
  · rw [none_filter (none_of g3 hno), tE_self hc]
    exact ⟨_, _, hr, hs⟩
theorem l_sizeFor (h : mS g B q t R ws) {a : Int32} (k : post (some (.int (sizeT q a))) ws) : zC g i_Mo_sizeFor [.ref (B 0), .int a] ws post := by
  obtain ⟨m, F, hr, hs⟩ := h
  obtain ⟨g1, g2, g3, g4, g5⟩ := hr.2.2.2.2.1 2 (by omega)
  have hcap := cap_le 2
  refine c_Mo_sizeFor hs g1 (by omega) (fun j hj he hno => ?_) (fun hno => ?_)
  · obtain ⟨x, a1, a2, a3, a4, a5⟩ := first_of g3 hj he hno
    have e1 : F 28 (8 * 2 + j) = x.2.2 := g5 j x a1
    rw [e1, hr.1.2.2.2.2.1]
    have e2 : q.2.2.2.2.2.2.1.find? (fun e => decide (e.1 = a)) = some x := a3
    have e3 : sizeT q a = if q.1.2.2.1 < x.2.2 then q.1.2.2.1 else x.2.2 := by unfold sizeT; rw [e2]
    rw [e3] at k
    by_cases hlt : q.1.2.2.1 < x.2.2
    · rw [if_pos hlt] at k
      rw [if_neg (Int32.not_le.mpr hlt)]
      exact k
    · rw [if_neg hlt] at k
      rw [if_pos (Int32.not_lt.mp hlt)]
      exact k
  · have e2 : q.2.2.2.2.2.2.1.find? (fun e => decide (e.1 = a)) = none := none_of g3 hno
    have e3 : sizeT q a = q.1.2.2.1 := by unfold sizeT; rw [e2]
    rw [e3] at k
    rw [hr.1.2.2.2.2.1]
    exact k
theorem l_usable (h : mS g B q t R ws) {j : Nat} {x : zOD} (hx : q.2.2.1[j]? = some x) (k : post (some (.int (zb (zusable x.2.2.1)))) ws) : zC g i_Mo_usable [.ref (B 0), .int (nI j)] ws post := by
  obtain ⟨m, F, hr, hs⟩ := h
  have h1 := len_of hx
  have h2 := hr.2.2.1.2.1
  refine c_Mo_usable hs (by omega) ?_
  rw [hr.2.2.1.2.2.2.1 j x hx]
  exact k
theorem l_end (h : mS g B q t R ws) {v : Int32} (k : post (some (.int (if v = 1000 then 2000000000 else q.1.2.1 + v))) ws) : zC g i_Mo_end [.ref (B 0), .int v] ws post := by
  obtain ⟨m, F, hr, hs⟩ := h
  refine c_Mo_end hs ?_
  rw [hr.1.2.2.1]
  exact k
end ZLists2
