/-! The model and the class: columns, what ties the model's cells to a state. -/
section ZRel
/-- an end of the class as the model writes it -/
def cv (e : Int32) : Int32 := if e = 2147483647 then 2000000000 else e
def col {α : Type} (f : Nat → Int32) (φ : α → Int32) (l : List α) : Prop := ∀ (j : Nat) (x : α), l[j]? = some x → f j = φ x
theorem upd_same (f : Nat → Int32) (k : Nat) (v : Int32) : upd f k v k = v := by simp [upd]
theorem upd_ne {f : Nat → Int32} {k j : Nat} {v : Int32} (h : j ≠ k) : upd f k v j = f j := by simp [upd, h]
theorem col.set {α : Type} {f : Nat → Int32} {φ : α → Int32} {l : List α} {j : Nat} {y : α} {v : Int32} (h : col f φ l) (hv : v = φ y) : col (upd f j v) φ (l.set j y) := by
  intro t x hx
  rw [List.getElem?_set] at hx
  by_cases e : j = t
  · subst e
    rw [if_pos rfl] at hx
    by_cases e2 : j < l.length
    · rw [if_pos e2] at hx
      cases hx
      rw [upd_same, hv]
    · rw [if_neg e2] at hx
      cases hx
  · rw [if_neg e] at hx
    rw [upd_ne (fun h => e h.symm)]
    exact h t x hx
theorem col.keep {α : Type} {f : Nat → Int32} {φ : α → Int32} {l : List α} {j : Nat} {x y : α} (h : col f φ l) (hx : l[j]? = some x) (e : φ y = φ x) : col f φ (l.set j y) := by
  intro t z hz
  rw [List.getElem?_set] at hz
  by_cases e1 : j = t
  · subst e1
    rw [if_pos rfl] at hz
    by_cases e2 : j < l.length
    · rw [if_pos e2] at hz
      cases hz
      rw [e]
      exact h j x hx
    · rw [if_neg e2] at hz
      cases hz
  · rw [if_neg e1] at hz
    exact h t z hz
theorem col.erase {α : Type} {f : Nat → Int32} {φ : α → Int32} {l : List α} {i n : Nat} (h : col f φ l) (hl : l.length = n + 1) : col (shf f i n) φ (l.eraseIdx i) := by
  intro t x hx
  rw [List.getElem?_eraseIdx] at hx
  unfold shf
  by_cases e : t < i
  · rw [if_pos e] at hx
    rw [if_neg (by omega)]
    exact h t x hx
  · rw [if_neg e] at hx
    have hlt : t + 1 < l.length := by
      by_cases hc : t + 1 < l.length
      · exact hc
      · rw [List.getElem?_eq_none (by omega)] at hx
        cases hx
    rw [if_pos (by omega)]
    exact h (t + 1) x hx
theorem col.push {α : Type} {f : Nat → Int32} {φ : α → Int32} {l : List α} {y : α} {v : Int32} {n : Nat} (h : col f φ l) (hn : n = l.length) (hv : v = φ y) : col (upd f n v) φ (l ++ [y]) := by
  intro t x hx
  subst hn
  by_cases e : t < l.length
  · rw [List.getElem?_append_left e] at hx
    rw [upd_ne (by omega)]
    exact h t x hx
  · rw [List.getElem?_append_right (by omega)] at hx
    by_cases e2 : t = l.length
    · subst e2
      rw [Nat.sub_self, List.getElem?_cons_zero] at hx
      cases hx
      rw [upd_same, hv]
    · rw [List.getElem?_eq_none (by simp; omega)] at hx
      cases hx
theorem col.nil {α : Type} {f : Nat → Int32} {φ : α → Int32} : col f φ ([] : List α) := fun j x h => by simp at h
theorem col.congr {α : Type} {f f' : Nat → Int32} {φ : α → Int32} {l : List α} (h : col f φ l) (he : ∀ j, j < l.length → f' j = f j) : col f' φ l := by
  intro j x hx
  obtain ⟨hj, _⟩ := List.getElem?_eq_some_iff.mp hx
  rw [he j hj]
  exact h j x hx
def cap (c : Nat) : Nat := if c = 0 then 3 else 4
def mM (s : hSc) (t : Int32) (m : Nat → Int32) : Prop := m 0 = t ∧ m 1 = s.1 ∧ m 2 = s.2.1 ∧ m 3 = zb s.2.2.2.2.2.2 ∧ m 4 = s.2.2.1 ∧ m 5 = s.2.2.2.2.2.1 ∧ m 6 = s.2.2.2.1 ∧ m 7 = s.2.2.2.2.1
def mU (u : hOu) (m : Nat → Int32) (F : Nat → Nat → Int32) : Prop := m 8 = nI u.1 ∧ F 9 = u.2.1 ∧ F 10 = u.2.2.1 ∧ F 11 = u.2.2.2
def mO (l : List zOD) (m : Nat → Int32) (F : Nat → Nat → Int32) : Prop := m 12 = nI l.length ∧ l.length ≤ 5 ∧ col (F 13) (fun x : zOD => x.1) l ∧ col (F 14) (fun x : zOD => x.2.2.1) l ∧ col (F 15) (fun x : zOD => x.2.1) l ∧ col (F 16) (fun x : zOD => cv x.2.2.2.2) l ∧ col (F 17) (fun x : zOD => cv x.2.2.2.1) l
def mN (l : List zND) (m : Nat → Int32) (F : Nat → Nat → Int32) : Prop := m 18 = nI l.length ∧ l.length ≤ 6 ∧ (∀ t, vp_nar .boolean (F 21 t) = F 21 t) ∧ col (F 19) (fun x : zND => x.1) l ∧ col (F 20) (fun x : zND => x.2.1) l ∧ col (F 21) (fun x : zND => zb x.2.2.2.2.1) l ∧ col (F 22) (fun x : zND => x.2.2.1) l ∧ col (F 23) (fun x : zND => x.2.2.2.1) l ∧ col (F 24) (fun x : zND => x.2.2.2.2.2) l
def mE (c : Nat) (l : List zTD) (F : Nat → Nat → Int32) : Prop := F 25 c = nI l.length ∧ l.length ≤ cap c ∧ col (fun j => F 26 (8 * c + j)) (fun x : zTD => x.1) l ∧ col (fun j => F 27 (8 * c + j)) (fun x : zTD => cv x.2.1) l ∧ col (fun j => F 28 (8 * c + j)) (fun x : zTD => x.2.2) l
def mD (h : hHd) (m : Nat → Int32) (F : Nat → Nat → Int32) : Prop := m 29 = nI h.1 ∧ h.1 ≤ 6 ∧ F 30 = h.2.1 ∧ F 31 = h.2.2
/-- the entries of a kind; entries of a kind put there -/
def ent (q : hT) (c : Nat) : List zTD := if c = 0 then q.2.2.2.2.1 else if c = 1 then q.2.2.2.2.2.1 else q.2.2.2.2.2.2.1
def tE (q : hT) (c : Nat) (l : List zTD) : hT := if c = 0 then tR q l else if c = 1 then tP q l else tA q l
/-- the model's cells hold this state, with this code of its last call -/
def mR (q : hT) (t : Int32) (m : Nat → Int32) (F : Nat → Nat → Int32) : Prop := mM q.1 t m ∧ mU q.2.1 m F ∧ mO q.2.2.1 m F ∧ mN q.2.2.2.1 m F ∧ (∀ c, c < 3 → mE c (ent q c) F) ∧ mD q.2.2.2.2.2.2.2 m F
theorem mM.of {s : hSc} {t : Int32} {m m' : Nat → Int32} (h : mM s t m) (h0 : m' 0 = m 0) (h1 : m' 1 = m 1) (h2 : m' 2 = m 2) (h3 : m' 3 = m 3) (h4 : m' 4 = m 4) (h5 : m' 5 = m 5) (h6 : m' 6 = m 6) (h7 : m' 7 = m 7) : mM s t m' := by
  unfold mM
  rw [h0, h1, h2, h3, h4, h5, h6, h7]
  exact h
theorem mU.of {u : hOu} {m m' : Nat → Int32} {F F' : Nat → Nat → Int32} (h : mU u m F) (h0 : m' 8 = m 8) (h1 : F' 9 = F 9) (h2 : F' 10 = F 10) (h3 : F' 11 = F 11) : mU u m' F' := by
  unfold mU
  rw [h0, h1, h2, h3]
  exact h
theorem mO.of {l : List zOD} {m m' : Nat → Int32} {F F' : Nat → Nat → Int32} (h : mO l m F) (h0 : m' 12 = m 12) (h1 : F' 13 = F 13) (h2 : F' 14 = F 14) (h3 : F' 15 = F 15) (h4 : F' 16 = F 16) (h5 : F' 17 = F 17) : mO l m' F' := by
  unfold mO
  rw [h0, h1, h2, h3, h4, h5]
  exact h
theorem mN.of {l : List zND} {m m' : Nat → Int32} {F F' : Nat → Nat → Int32} (h : mN l m F) (h0 : m' 18 = m 18) (h1 : F' 19 = F 19) (h2 : F' 20 = F 20) (h3 : F' 21 = F 21) (h4 : F' 22 = F 22) (h5 : F' 23 = F 23) (h6 : F' 24 = F 24) : mN l m' F' := by
  unfold mN
  rw [h0, h1, h2, h3, h4, h5, h6]
  exact h
theorem mE.of {q : hT} {F F' : Nat → Nat → Int32} (h : ∀ c, c < 3 → mE c (ent q c) F) (h1 : F' 25 = F 25) (h2 : F' 26 = F 26) (h3 : F' 27 = F 27) (h4 : F' 28 = F 28) : ∀ c, c < 3 → mE c (ent q c) F' := by
  intro c hc
  unfold mE
  rw [h1, h2, h3, h4]
  exact h c hc
theorem mD.of {d : hHd} {m m' : Nat → Int32} {F F' : Nat → Nat → Int32} (h : mD d m F) (h0 : m' 29 = m 29) (h1 : F' 30 = F 30) (h2 : F' 31 = F 31) : mD d m' F' := by
  unfold mD
  rw [h0, h1, h2]
  exact h
theorem mU.out {u : hOu} {m m' : Nat → Int32} {F F' : Nat → Nat → Int32} {a b c : Int32} (h : mU u m F) (h0 : m' 8 = nI (u.1 + 1)) (h1 : F' 9 = upd (F 9) (u.1 % 12) a) (h2 : F' 10 = upd (F 10) (u.1 % 12) b) (h3 : F' 11 = upd (F 11) (u.1 % 12) c) : mU (ouAdd u a b c) m' F' := by
  unfold mU ouAdd
  rw [h0, h1, h2, h3, h.2.1, h.2.2.1, h.2.2.2]
  exact ⟨rfl, rfl, rfl, rfl⟩
theorem cap_le (c : Nat) : cap c ≤ 4 := by
  unfold cap
  split <;> omega
theorem ent_tE {q : hT} {c d : Nat} {l : List zTD} (hc : c < 3) (hd : d < 3) : ent (tE q c l) d = if d = c then l else ent q d := by
  have h1 : c = 0 ∨ c = 1 ∨ c = 2 := by omega
  have h2 : d = 0 ∨ d = 1 ∨ d = 2 := by omega
  rcases h1 with rfl | rfl | rfl <;> rcases h2 with rfl | rfl | rfl <;> rfl
theorem tE_1 (q : hT) (c : Nat) (l : List zTD) : (tE q c l).1 = q.1 ∧ (tE q c l).2.1 = q.2.1 ∧ (tE q c l).2.2.1 = q.2.2.1 ∧ (tE q c l).2.2.2.1 = q.2.2.2.1 ∧ (tE q c l).2.2.2.2.2.2.2 = q.2.2.2.2.2.2.2 := by
  unfold tE
  split
  · exact ⟨rfl, rfl, rfl, rfl, rfl⟩
  · split <;> exact ⟨rfl, rfl, rfl, rfl, rfl⟩
/-- entries of one kind changed -/
theorem mR.entry {q : hT} {t : Int32} {m : Nat → Int32} {F F' : Nat → Nat → Int32} {c : Nat} {l : List zTD} (h : mR q t m F) (hc : c < 3) (hl : mE c l F') (hk : ∀ k, k < 25 ∨ 28 < k → F' k = F k) (ho : ∀ d, d < 3 → d ≠ c → F' 25 d = F 25 d ∧ ∀ j, j < 8 → F' 26 (8 * d + j) = F 26 (8 * d + j) ∧ F' 27 (8 * d + j) = F 27 (8 * d + j) ∧ F' 28 (8 * d + j) = F 28 (8 * d + j)) : mR (tE q c l) t m F' := by
  obtain ⟨hM, hU, hO, hN, hE, hD⟩ := h
  obtain ⟨e1, e2, e3, e4, e5⟩ := tE_1 q c l
  unfold mR
  rw [e1, e2, e3, e4, e5]
  refine ⟨hM, hU.of rfl (hk 9 (by omega)) (hk 10 (by omega)) (hk 11 (by omega)), hO.of rfl (hk 13 (by omega)) (hk 14 (by omega)) (hk 15 (by omega)) (hk 16 (by omega)) (hk 17 (by omega)), hN.of rfl (hk 19 (by omega)) (hk 20 (by omega)) (hk 21 (by omega)) (hk 22 (by omega)) (hk 23 (by omega)) (hk 24 (by omega)), ?_, hD.of rfl (hk 30 (by omega)) (hk 31 (by omega))⟩
  intro d hd
  rw [ent_tE hc hd]
  by_cases e : d = c
  · subst e
    rw [if_pos rfl]
    exact hl
  · rw [if_neg e]
    obtain ⟨g1, g2, g3, g4, g5⟩ := hE d hd
    obtain ⟨o1, o2⟩ := ho d hd e
    have hcap := cap_le d
    exact ⟨by rw [o1]; exact g1, g2, g3.congr (fun j hj => (o2 j (by omega)).1), g4.congr (fun j hj => (o2 j (by omega)).2.1), g5.congr (fun j hj => (o2 j (by omega)).2.2)⟩
/-- entries: one goes -/
theorem mR.entryDrop {q : hT} {t : Int32} {m : Nat → Int32} {F : Nat → Nat → Int32} {c n i : Nat} (h : mR q t m F) (hc : c < 3) (hn : (ent q c).length = n + 1) (hi : i ≤ n) : mR (tE q c ((ent q c).eraseIdx i)) t m (mup (mup (mup (mup F 25 (upd (F 25) c (nI n))) 26 (shf (F 26) (8 * c + i) (8 * c + n))) 27 (shf (F 27) (8 * c + i) (8 * c + n))) 28 (shf (F 28) (8 * c + i) (8 * c + n))) := by
  obtain ⟨g1, g2, g3, g4, g5⟩ := h.2.2.2.2.1 c hc
  have hcap := cap_le c
  have key : ∀ f : Nat → Int32, (fun j => shf f (8 * c + i) (8 * c + n) (8 * c + j)) = shf (fun j => f (8 * c + j)) i n := by
    intro f
    funext j
    unfold shf
    by_cases e : i ≤ j ∧ j < n
    · rw [if_pos (by omega), if_pos e]
      rfl
    · rw [if_neg (by omega), if_neg e]
  refine h.entry hc ⟨?_, ?_, ?_, ?_, ?_⟩ (fun k hk => ?_) (fun d hd hdc => ⟨?_, fun j hj => ?_⟩)
  · show upd (F 25) c (nI n) c = _
    rw [upd_same, List.length_eraseIdx_of_lt (by omega), hn]
    rfl
  · rw [List.length_eraseIdx_of_lt (by omega)]
    omega
  · show col (fun j => shf (F 26) (8 * c + i) (8 * c + n) (8 * c + j)) _ _
    rw [key]
    exact g3.erase hn
  · show col (fun j => shf (F 27) (8 * c + i) (8 * c + n) (8 * c + j)) _ _
    rw [key]
    exact g4.erase hn
  · show col (fun j => shf (F 28) (8 * c + i) (8 * c + n) (8 * c + j)) _ _
    rw [key]
    exact g5.erase hn
  · unfold mup
    rw [if_neg (by omega), if_neg (by omega), if_neg (by omega), if_neg (by omega)]
  · exact upd_ne hdc
  · have a : ∀ f : Nat → Int32, shf f (8 * c + i) (8 * c + n) (8 * d + j) = f (8 * d + j) := by
      intro f
      unfold shf
      rw [if_neg (by omega)]
    exact ⟨a _, a _, a _⟩
/-- entries: one is written over -/
theorem mR.entrySet {q : hT} {t : Int32} {m : Nat → Int32} {F : Nat → Nat → Int32} {c j : Nat} {a e e' z : Int32} (h : mR q t m F) (hc : c < 3) (hj : j < (ent q c).length) (he : e' = cv e) : mR (tE q c ((ent q c).set j (a, e, z))) t m (mup (mup (mup F 26 (upd (F 26) (8 * c + j) a)) 27 (upd (F 27) (8 * c + j) e')) 28 (upd (F 28) (8 * c + j) z)) := by
  obtain ⟨g1, g2, g3, g4, g5⟩ := h.2.2.2.2.1 c hc
  have hcap := cap_le c
  have key : ∀ (f : Nat → Int32) (v : Int32), (fun t => upd f (8 * c + j) v (8 * c + t)) = upd (fun t => f (8 * c + t)) j v := by
    intro f v
    funext t
    unfold upd
    by_cases e : t = j
    · rw [if_pos (by omega), if_pos e]
    · rw [if_neg (by omega), if_neg e]
  refine h.entry hc ⟨?_, ?_, ?_, ?_, ?_⟩ (fun k hk => ?_) (fun d hd hdc => ⟨rfl, fun i hi => ?_⟩)
  · rw [List.length_set]
    exact g1
  · rw [List.length_set]
    exact g2
  · show col (fun t => upd (F 26) (8 * c + j) a (8 * c + t)) _ _
    rw [key]
    exact g3.set rfl
  · show col (fun t => upd (F 27) (8 * c + j) e' (8 * c + t)) _ _
    rw [key]
    exact g4.set he
  · show col (fun t => upd (F 28) (8 * c + j) z (8 * c + t)) _ _
    rw [key]
    exact g5.set rfl
  · unfold mup
    rw [if_neg (by omega), if_neg (by omega), if_neg (by omega)]
  · have b : ∀ (f : Nat → Int32) (v : Int32), upd f (8 * c + j) v (8 * d + i) = f (8 * d + i) := fun f v => upd_ne (by omega)
    exact ⟨b _ _, b _ _, b _ _⟩
/-- entries: one is put behind them -/
theorem mR.entryPush {q : hT} {t : Int32} {m : Nat → Int32} {F : Nat → Nat → Int32} {c n : Nat} {a e e' z : Int32} (h : mR q t m F) (hc : c < 3) (hn : (ent q c).length = n) (hcp : n < cap c) (he : e' = cv e) : mR (tE q c (ent q c ++ [(a, e, z)])) t m (mup (mup (mup (mup F 25 (upd (F 25) c (nI (n + 1)))) 26 (upd (F 26) (8 * c + n) a)) 27 (upd (F 27) (8 * c + n) e')) 28 (upd (F 28) (8 * c + n) z)) := by
  obtain ⟨g1, g2, g3, g4, g5⟩ := h.2.2.2.2.1 c hc
  have hcap := cap_le c
  have key : ∀ (f : Nat → Int32) (v : Int32), (fun t => upd f (8 * c + n) v (8 * c + t)) = upd (fun t => f (8 * c + t)) n v := by
    intro f v
    funext t
    unfold upd
    by_cases e : t = n
    · rw [if_pos (by omega), if_pos e]
    · rw [if_neg (by omega), if_neg e]
  refine h.entry hc ⟨?_, ?_, ?_, ?_, ?_⟩ (fun k hk => ?_) (fun d hd hdc => ⟨?_, fun i hi => ?_⟩)
  · show upd (F 25) c (nI (n + 1)) c = _
    rw [upd_same, List.length_append, hn]
    rfl
  · rw [List.length_append, hn]
    exact hcp
  · show col (fun t => upd (F 26) (8 * c + n) a (8 * c + t)) _ _
    rw [key]
    exact g3.push hn.symm rfl
  · show col (fun t => upd (F 27) (8 * c + n) e' (8 * c + t)) _ _
    rw [key]
    exact g4.push hn.symm he
  · show col (fun t => upd (F 28) (8 * c + n) z (8 * c + t)) _ _
    rw [key]
    exact g5.push hn.symm rfl
  · unfold mup
    rw [if_neg (by omega), if_neg (by omega), if_neg (by omega), if_neg (by omega)]
  · exact upd_ne hdc
  · have b : ∀ (f : Nat → Int32) (v : Int32), upd f (8 * c + n) v (8 * d + i) = f (8 * d + i) := fun f v => upd_ne (by omega)
    exact ⟨b _ _, b _ _, b _ _⟩
end ZRel
