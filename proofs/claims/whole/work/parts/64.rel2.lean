/-! The model and the class: what the model's small steps make of the state. -/
section ZRel2
theorem mup_ne {α : Type} {f : Nat → α} {k j : Nat} {v : α} (h : j ≠ k) : mup f k v j = f j := by unfold mup; rw [if_neg h]
theorem mR.setS {q : hT} {t t' : Int32} {m m' : Nat → Int32} {F : Nat → Nat → Int32} {s : hSc} (h : mR q t m F) (hs : mM s t' m') (hm : ∀ k, 7 < k → m' k = m k) : mR (tS q s) t' m' F := by
  obtain ⟨hM, hU, hO, hN, hE, hD⟩ := h
  exact ⟨hs, hU.of (hm 8 (by omega)) rfl rfl rfl, hO.of (hm 12 (by omega)) rfl rfl rfl rfl rfl, hN.of (hm 18 (by omega)) rfl rfl rfl rfl rfl rfl, hE, hD.of (hm 29 (by omega)) rfl rfl⟩
theorem mR.setU {q : hT} {t : Int32} {m m' : Nat → Int32} {F F' : Nat → Nat → Int32} {u : hOu} (h : mR q t m F) (hu : mU u m' F') (hm : ∀ k, k ≠ 8 → m' k = m k) (hF : ∀ k, k < 9 ∨ 11 < k → F' k = F k) : mR (tU q u) t m' F' := by
  obtain ⟨hM, hU, hO, hN, hE, hD⟩ := h
  exact ⟨hM.of (hm 0 (by omega)) (hm 1 (by omega)) (hm 2 (by omega)) (hm 3 (by omega)) (hm 4 (by omega)) (hm 5 (by omega)) (hm 6 (by omega)) (hm 7 (by omega)), hu, hO.of (hm 12 (by omega)) (hF 13 (by omega)) (hF 14 (by omega)) (hF 15 (by omega)) (hF 16 (by omega)) (hF 17 (by omega)), hN.of (hm 18 (by omega)) (hF 19 (by omega)) (hF 20 (by omega)) (hF 21 (by omega)) (hF 22 (by omega)) (hF 23 (by omega)) (hF 24 (by omega)), mE.of hE (hF 25 (by omega)) (hF 26 (by omega)) (hF 27 (by omega)) (hF 28 (by omega)), hD.of (hm 29 (by omega)) (hF 30 (by omega)) (hF 31 (by omega))⟩
theorem mR.setO {q : hT} {t : Int32} {m m' : Nat → Int32} {F F' : Nat → Nat → Int32} {l : List zOD} (h : mR q t m F) (hl : mO l m' F') (hm : ∀ k, k ≠ 12 → m' k = m k) (hF : ∀ k, k < 13 ∨ 17 < k → F' k = F k) : mR (tO q l) t m' F' := by
  obtain ⟨hM, hU, hO, hN, hE, hD⟩ := h
  exact ⟨hM.of (hm 0 (by omega)) (hm 1 (by omega)) (hm 2 (by omega)) (hm 3 (by omega)) (hm 4 (by omega)) (hm 5 (by omega)) (hm 6 (by omega)) (hm 7 (by omega)), hU.of (hm 8 (by omega)) (hF 9 (by omega)) (hF 10 (by omega)) (hF 11 (by omega)), hl, hN.of (hm 18 (by omega)) (hF 19 (by omega)) (hF 20 (by omega)) (hF 21 (by omega)) (hF 22 (by omega)) (hF 23 (by omega)) (hF 24 (by omega)), mE.of hE (hF 25 (by omega)) (hF 26 (by omega)) (hF 27 (by omega)) (hF 28 (by omega)), hD.of (hm 29 (by omega)) (hF 30 (by omega)) (hF 31 (by omega))⟩
theorem mR.setN {q : hT} {t : Int32} {m m' : Nat → Int32} {F F' : Nat → Nat → Int32} {l : List zND} (h : mR q t m F) (hl : mN l m' F') (hm : ∀ k, k ≠ 18 → m' k = m k) (hF : ∀ k, k < 19 ∨ 24 < k → F' k = F k) : mR (tN q l) t m' F' := by
  obtain ⟨hM, hU, hO, hN, hE, hD⟩ := h
  exact ⟨hM.of (hm 0 (by omega)) (hm 1 (by omega)) (hm 2 (by omega)) (hm 3 (by omega)) (hm 4 (by omega)) (hm 5 (by omega)) (hm 6 (by omega)) (hm 7 (by omega)), hU.of (hm 8 (by omega)) (hF 9 (by omega)) (hF 10 (by omega)) (hF 11 (by omega)), hO.of (hm 12 (by omega)) (hF 13 (by omega)) (hF 14 (by omega)) (hF 15 (by omega)) (hF 16 (by omega)) (hF 17 (by omega)), hl, mE.of hE (hF 25 (by omega)) (hF 26 (by omega)) (hF 27 (by omega)) (hF 28 (by omega)), hD.of (hm 29 (by omega)) (hF 30 (by omega)) (hF 31 (by omega))⟩
theorem mR.setD {q : hT} {t : Int32} {m m' : Nat → Int32} {F F' : Nat → Nat → Int32} {d : hHd} (h : mR q t m F) (hl : mD d m' F') (hm : ∀ k, k ≠ 29 → m' k = m k) (hF : ∀ k, k < 30 → F' k = F k) : mR (tH q d) t m' F' := by
  obtain ⟨hM, hU, hO, hN, hE, hD⟩ := h
  exact ⟨hM.of (hm 0 (by omega)) (hm 1 (by omega)) (hm 2 (by omega)) (hm 3 (by omega)) (hm 4 (by omega)) (hm 5 (by omega)) (hm 6 (by omega)) (hm 7 (by omega)), hU.of (hm 8 (by omega)) (hF 9 (by omega)) (hF 10 (by omega)) (hF 11 (by omega)), hO.of (hm 12 (by omega)) (hF 13 (by omega)) (hF 14 (by omega)) (hF 15 (by omega)) (hF 16 (by omega)) (hF 17 (by omega)), hN.of (hm 18 (by omega)) (hF 19 (by omega)) (hF 20 (by omega)) (hF 21 (by omega)) (hF 22 (by omega)) (hF 23 (by omega)) (hF 24 (by omega)), mE.of hE (hF 25 (by omega)) (hF 26 (by omega)) (hF 27 (by omega)) (hF 28 (by omega)), hl⟩
theorem mR.thrown {q : hT} {t t' : Int32} {m : Nat → Int32} {F : Nat → Nat → Int32} (h : mR q t m F) : mR q t' (mup m 0 t') F := by
  have hM := h.1
  exact h.setS ⟨rfl, hM.2⟩ (fun k hk => mup_ne (by omega))
theorem mR.out {q : hT} {t : Int32} {m : Nat → Int32} {F : Nat → Nat → Int32} {a b c : Int32} (h : mR q t m F) : mR (tU q (ouAdd q.2.1 a b c)) t (mup m 8 (nI (q.2.1.1 + 1))) (mup (mup (mup F 9 (upd (F 9) (q.2.1.1 % 12) a)) 10 (upd (F 10) (q.2.1.1 % 12) b)) 11 (upd (F 11) (q.2.1.1 % 12) c)) :=
  h.setU (h.2.1.out rfl rfl rfl rfl) (fun k hk => mup_ne hk) (fun k hk => by rw [mup_ne (by omega), mup_ne (by omega), mup_ne (by omega)])
theorem mR.turn {q : hT} {t : Int32} {m : Nat → Int32} {F : Nat → Nat → Int32} {j : Nat} {x : zND} {s : Int32} (h : mR q t m F) (hx : q.2.2.2.1[j]? = some x) : mR (tN q (q.2.2.2.1.set j (ndS x s q.1.2.1))) t m (mup (mup F 22 (upd (F 22) j s)) 23 (upd (F 23) j (m 2))) := by
  obtain ⟨g0, g1, gz, g2, g3, g4, g5, g6, g7⟩ := h.2.2.2.1
  exact h.setN ⟨by rw [List.length_set]; exact g0, by rw [List.length_set]; exact g1, gz, g2.keep hx rfl, g3.keep hx rfl, g4.keep hx rfl, g5.set rfl, g6.set h.1.2.2.1, g7.keep hx rfl⟩ (fun k hk => rfl) (fun k hk => by rw [mup_ne (by omega), mup_ne (by omega)])
theorem mR.number {q : hT} {t : Int32} {m : Nat → Int32} {F : Nat → Nat → Int32} {j : Nat} {x : zND} {v : Int32} (h : mR q t m F) (hx : q.2.2.2.1[j]? = some x) : mR (tN q (q.2.2.2.1.set j (x.1, v, x.2.2))) t m (mup F 20 (upd (F 20) j v)) := by
  obtain ⟨g0, g1, gz, g2, g3, g4, g5, g6, g7⟩ := h.2.2.2.1
  exact h.setN ⟨by rw [List.length_set]; exact g0, by rw [List.length_set]; exact g1, gz, g2.keep hx rfl, g3.set rfl, g4.keep hx rfl, g5.keep hx rfl, g6.keep hx rfl, g7.keep hx rfl⟩ (fun k hk => rfl) (fun k hk => by rw [mup_ne (by omega)])
theorem mR.routing {q : hT} {t : Int32} {m : Nat → Int32} {F : Nat → Nat → Int32} {j : Nat} {x : zND} {b : Bool} {v : Int32} (h : mR q t m F) (hx : q.2.2.2.1[j]? = some x) (hv : v = zb b) (hz : vp_nar .boolean v = v) : mR (tN q (q.2.2.2.1.set j (ndR x b))) t m (mup F 21 (upd (F 21) j v)) := by
  obtain ⟨g0, g1, gz, g2, g3, g4, g5, g6, g7⟩ := h.2.2.2.1
  refine h.setN ⟨by rw [List.length_set]; exact g0, by rw [List.length_set]; exact g1, ?_, g2.keep hx rfl, g3.keep hx rfl, g4.set hv, g5.keep hx rfl, g6.keep hx rfl, g7.keep hx rfl⟩ (fun k hk => rfl) (fun k hk => by rw [mup_ne (by omega)])
  intro i
  show vp_nar .boolean (upd (F 21) j v i) = upd (F 21) j v i
  unfold upd
  split
  · exact hz
  · exact gz i
theorem mR.waits {q : hT} {t : Int32} {m : Nat → Int32} {F : Nat → Nat → Int32} {j : Nat} {x : zND} {v : Int32} (h : mR q t m F) (hx : q.2.2.2.1[j]? = some x) : mR (tN q (q.2.2.2.1.set j (ndW x v))) t m (mup F 24 (upd (F 24) j v)) := by
  obtain ⟨g0, g1, gz, g2, g3, g4, g5, g6, g7⟩ := h.2.2.2.1
  exact h.setN ⟨by rw [List.length_set]; exact g0, by rw [List.length_set]; exact g1, gz, g2.keep hx rfl, g3.keep hx rfl, g4.keep hx rfl, g5.keep hx rfl, g6.keep hx rfl, g7.set rfl⟩ (fun k hk => rfl) (fun k hk => by rw [mup_ne (by omega)])
theorem mR.dropNb {q : hT} {t : Int32} {m : Nat → Int32} {F : Nat → Nat → Int32} {n i : Nat} (h : mR q t m F) (hn : q.2.2.2.1.length = n + 1) (hi : i ≤ n) (hz : ∀ t, vp_nar .boolean (shf (F 21) i n t) = shf (F 21) i n t) : mR (tN q (q.2.2.2.1.eraseIdx i)) t (mup m 18 (nI n)) (mup (mup (mup (mup (mup (mup F 19 (shf (F 19) i n)) 20 (shf (F 20) i n)) 21 (shf (F 21) i n)) 22 (shf (F 22) i n)) 23 (shf (F 23) i n)) 24 (shf (F 24) i n)) := by
  obtain ⟨g0, g1, gz, g2, g3, g4, g5, g6, g7⟩ := h.2.2.2.1
  have hl : (q.2.2.2.1.eraseIdx i).length = n := by rw [List.length_eraseIdx_of_lt (by omega), hn]; rfl
  exact h.setN ⟨by rw [hl]; rfl, by rw [hl]; omega, hz, g2.erase hn, g3.erase hn, g4.erase hn, g5.erase hn, g6.erase hn, g7.erase hn⟩ (fun k hk => mup_ne hk) (fun k hk => by rw [mup_ne (by omega), mup_ne (by omega), mup_ne (by omega), mup_ne (by omega), mup_ne (by omega), mup_ne (by omega)])
theorem mR.pushNb {q : hT} {t : Int32} {m : Nat → Int32} {F : Nat → Nat → Int32} {n : Nat} {a s b : Int32} (h : mR q t m F) (hn : q.2.2.2.1.length = n) (h6 : n < 6) (h0 : vp_nar .boolean 0 = 0) : mR (tN q (q.2.2.2.1 ++ [(a, b, s, q.1.2.1, false, 0)])) t (mup m 18 (nI (n + 1))) (mup (mup (mup (mup (mup (mup F 19 (upd (F 19) n a)) 20 (upd (F 20) n b)) 21 (upd (F 21) n 0)) 24 (upd (F 24) n 0)) 22 (upd (F 22) n s)) 23 (upd (F 23) n (m 2))) := by
  obtain ⟨g0, g1, gz, g2, g3, g4, g5, g6, g7⟩ := h.2.2.2.1
  have hl : (q.2.2.2.1 ++ [(a, b, s, q.1.2.1, false, 0)]).length = n + 1 := by rw [List.length_append, hn]; rfl
  refine h.setN ⟨by rw [hl]; rfl, by rw [hl]; omega, ?_, g2.push hn.symm rfl, g3.push hn.symm rfl, g4.push hn.symm rfl, g5.push hn.symm rfl, g6.push hn.symm h.1.2.2.1, g7.push hn.symm rfl⟩ (fun k hk => mup_ne hk) (fun k hk => by rw [mup_ne (by omega), mup_ne (by omega), mup_ne (by omega), mup_ne (by omega), mup_ne (by omega), mup_ne (by omega)])
  intro i
  show vp_nar .boolean (upd (F 21) n 0 i) = upd (F 21) n 0 i
  unfold upd
  split
  · exact h0
  · exact gz i
theorem mR.dropOwn {q : hT} {t : Int32} {m : Nat → Int32} {F : Nat → Nat → Int32} {n i : Nat} (h : mR q t m F) (hn : q.2.2.1.length = n + 1) (hi : i ≤ n) : mR (tO q (q.2.2.1.eraseIdx i)) t (mup m 12 (nI n)) (mup (mup (mup (mup (mup F 13 (shf (F 13) i n)) 14 (shf (F 14) i n)) 15 (shf (F 15) i n)) 16 (shf (F 16) i n)) 17 (shf (F 17) i n)) := by
  obtain ⟨g0, g1, g2, g3, g4, g5, g6⟩ := h.2.2.1
  have hl : (q.2.2.1.eraseIdx i).length = n := by rw [List.length_eraseIdx_of_lt (by omega), hn]; rfl
  exact h.setO ⟨by rw [hl]; rfl, by rw [hl]; omega, g2.erase hn, g3.erase hn, g4.erase hn, g5.erase hn, g6.erase hn⟩ (fun k hk => mup_ne hk) (fun k hk => by rw [mup_ne (by omega), mup_ne (by omega), mup_ne (by omega), mup_ne (by omega), mup_ne (by omega)])
theorem mR.pushOwn {q : hT} {t : Int32} {m : Nat → Int32} {F : Nat → Nat → Int32} {n : Nat} {a pe ve pe' ve' : Int32} (h : mR q t m F) (hn : q.2.2.1.length = n) (h5 : n < 5) (hp : pe' = cv pe) (hv : ve' = cv ve) : mR (tO q (q.2.2.1 ++ [(a, q.1.2.1, 1, ve, pe)])) t (mup m 12 (nI (n + 1))) (mup (mup (mup (mup (mup F 13 (upd (F 13) n a)) 14 (upd (F 14) n 1)) 15 (upd (F 15) n (m 2))) 16 (upd (F 16) n pe')) 17 (upd (F 17) n ve')) := by
  obtain ⟨g0, g1, g2, g3, g4, g5, g6⟩ := h.2.2.1
  have hl : (q.2.2.1 ++ [(a, q.1.2.1, 1, ve, pe)]).length = n + 1 := by rw [List.length_append, hn]; rfl
  exact h.setO ⟨by rw [hl]; rfl, by rw [hl]; omega, g2.push hn.symm rfl, g3.push hn.symm rfl, g4.push hn.symm h.1.2.2.1, g5.push hn.symm hp, g6.push hn.symm hv⟩ (fun k hk => mup_ne hk) (fun k hk => by rw [mup_ne (by omega), mup_ne (by omega), mup_ne (by omega), mup_ne (by omega), mup_ne (by omega)])
theorem mR.ownState {q : hT} {t : Int32} {m : Nat → Int32} {F : Nat → Nat → Int32} {j : Nat} {x : zOD} {v : Int32} (h : mR q t m F) (hx : q.2.2.1[j]? = some x) : mR (tO q (q.2.2.1.set j (oaS x v))) t m (mup F 14 (upd (F 14) j v)) := by
  obtain ⟨g0, g1, g2, g3, g4, g5, g6⟩ := h.2.2.1
  exact h.setO ⟨by rw [List.length_set]; exact g0, by rw [List.length_set]; exact g1, g2.keep hx rfl, g3.set rfl, g4.keep hx rfl, g5.keep hx rfl, g6.keep hx rfl⟩ (fun k hk => rfl) (fun k hk => by rw [mup_ne (by omega)])
theorem mR.ownPref {q : hT} {t : Int32} {m : Nat → Int32} {F : Nat → Nat → Int32} {j : Nat} {x : zOD} {v e : Int32} (h : mR q t m F) (hx : q.2.2.1[j]? = some x) (hv : v = cv e) : mR (tO q (q.2.2.1.set j (x.1, x.2.1, x.2.2.1, x.2.2.2.1, e))) t m (mup F 16 (upd (F 16) j v)) := by
  obtain ⟨g0, g1, g2, g3, g4, g5, g6⟩ := h.2.2.1
  exact h.setO ⟨by rw [List.length_set]; exact g0, by rw [List.length_set]; exact g1, g2.keep hx rfl, g3.keep hx rfl, g4.keep hx rfl, g5.set hv, g6.keep hx rfl⟩ (fun k hk => rfl) (fun k hk => by rw [mup_ne (by omega)])
theorem mR.ownValid {q : hT} {t : Int32} {m : Nat → Int32} {F : Nat → Nat → Int32} {j : Nat} {x : zOD} {v e : Int32} (h : mR q t m F) (hx : q.2.2.1[j]? = some x) (hv : v = cv e) : mR (tO q (q.2.2.1.set j (x.1, x.2.1, x.2.2.1, e, x.2.2.2.2))) t m (mup F 17 (upd (F 17) j v)) := by
  obtain ⟨g0, g1, g2, g3, g4, g5, g6⟩ := h.2.2.1
  exact h.setO ⟨by rw [List.length_set]; exact g0, by rw [List.length_set]; exact g1, g2.keep hx rfl, g3.keep hx rfl, g4.keep hx rfl, g5.keep hx rfl, g6.set hv⟩ (fun k hk => rfl) (fun k hk => by rw [mup_ne (by omega)])
theorem mR.header {q : hT} {t : Int32} {m : Nat → Int32} {F : Nat → Nat → Int32} {a b : Int32} (h : mR q t m F) (h6 : q.2.2.2.2.2.2.2.1 < 6) : mR (headT q a b) t (mup m 29 (nI (q.2.2.2.2.2.2.2.1 + 1))) (mup (mup F 30 (upd (F 30) q.2.2.2.2.2.2.2.1 a)) 31 (upd (F 31) q.2.2.2.2.2.2.2.1 b)) := by
  obtain ⟨g0, g1, g2, g3⟩ := h.2.2.2.2.2
  refine h.setD ⟨rfl, h6, ?_, ?_⟩ (fun k hk => mup_ne hk) (fun k hk => by rw [mup_ne (by omega), mup_ne (by omega)])
  · show upd (F 30) _ a = _
    rw [g2]
  · show upd (F 31) _ b = _
    rw [g3]
theorem mR.clear {q : hT} {t : Int32} {m : Nat → Int32} {F : Nat → Nat → Int32} (h : mR q t m F) : mR (clearT q) t (mup m 29 0) F := by
  obtain ⟨g0, g1, g2, g3⟩ := h.2.2.2.2.2
  exact h.setD ⟨by rw [nI_0]; rfl, Nat.zero_le _, g2, g3⟩ (fun k hk => mup_ne hk) (fun k hk => rfl)
/-- the first one that fits, by its place -/
theorem first_of {α : Type} {f : Nat → Int32} {φ : α → Int32} {l : List α} {a : Int32} {j : Nat} (h : col f φ l) (hj : j < l.length) (he : f j = a) (hno : ∀ t, t < j → f t ≠ a) : ∃ x, l[j]? = some x ∧ φ x = a ∧ l.find? (fun e => decide (φ e = a)) = some x ∧ (∀ g : α → α, zset1 (fun e => decide (φ e = a)) g l = l.set j (g x)) ∧ ∀ y ∈ l.take j, decide (φ y = a) = false := by
  have hx : l[j]? = some l[j] := List.getElem?_eq_getElem hj
  have hn : ∀ y ∈ l.take j, decide (φ y = a) = false := by
    intro y hy
    obtain ⟨i, hi, rfl⟩ := List.mem_iff_getElem.mp hy
    rw [List.length_take] at hi
    rw [List.getElem_take]
    have hi2 : i < l.length := by omega
    have := h i _ (List.getElem?_eq_getElem hi2)
    exact decide_eq_false (fun e => hno i (by omega) (by rw [this]; exact e))
  have hp : φ l[j] = a := by rw [← h j _ hx]; exact he
  refine ⟨l[j], hx, hp, ?_, fun g => zset1_at hn hx (decide_eq_true hp), hn⟩
  rw [List.find?_eq_some_iff_append]
  refine ⟨decide_eq_true hp, l.take j, l.drop (j + 1), ?_, fun y hy => by rw [hn y hy]; rfl⟩
  rw [List.getElem_cons_drop, List.take_append_drop]
theorem none_of {α : Type} {f : Nat → Int32} {φ : α → Int32} {l : List α} {a : Int32} (h : col f φ l) (hno : ∀ t, t < l.length → f t ≠ a) : l.find? (fun e => decide (φ e = a)) = none := by
  rw [List.find?_eq_none]
  intro y hy
  obtain ⟨i, hi, rfl⟩ := List.mem_iff_getElem.mp hy
  have := h i _ (List.getElem?_eq_getElem hi)
  simp only [decide_eq_true_eq]
  exact fun e => hno i hi (by rw [this]; exact e)
theorem cv_end {t v : Int32} (h : t + v ≠ 2147483647) : cv (zend t v) = if v = 1000 then 2000000000 else t + v := by
  unfold zend
  by_cases e : v = 1000
  · rw [if_pos e, if_pos e]
    rfl
  · rw [if_neg e, if_neg e]
    unfold cv
    rw [if_neg h]
theorem cv_le {e t : Int32} (ht : t < 2000000000) : cv e ≤ t ↔ ¬ t < e := by
  unfold cv
  by_cases h : e = 2147483647
  · rw [if_pos h, h]
    constructor
    · intro h1
      exact absurd (Int32.lt_of_le_of_lt h1 ht) (by decide)
    · intro h1
      exact absurd (Int32.lt_trans ht (by decide)) h1
  · rw [if_neg h]
    exact Int32.not_lt.symm
end ZRel2
