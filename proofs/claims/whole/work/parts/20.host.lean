/-! The host: its cells, and its methods on one element (walks by a program, gen20.py). -/
section ZHost
/-- id, time, size of the link, lost, taken, bucket, whether down -/
abbrev hSc : Type := Int32 × Int32 × Int32 × Int32 × Int32 × Int32 × Bool
/-- how many were sent; the rings -/
abbrev hOu : Type := Nat × (Nat → Int32) × (Nat → Int32) × (Nat → Int32)
def hoF (A : Nat → Nat) (s : hSc) : List Value := [.int s.1, .ref (A 1), .ref (A 5), .ref (A 7), .ref (A 9), .ref (A 11), .ref (A 13), .ref (A 15), .int s.2.1, .int s.2.2.1, .int s.2.2.2.1, .int s.2.2.2.2.1, .int s.2.2.2.2.2.1, .int (zb s.2.2.2.2.2.2)]
def hoC (A : Nat → Nat) (s : hSc) : Nat × va_E := (A 0, .inr (9, hoF A s))
def ouN (g : zG) (A : Nat → Nat) (u : hOu) : va_W := ouW g (A 1) (A 2) (A 3) (A 4) u.2.1 u.2.2.1 u.2.2.2 (nI (u.1 % 12)) (nI (min u.1 12)) (nI u.1)
def ouAdd (u : hOu) (a b c : Int32) : hOu := (u.1 + 1, upd u.2.1 (u.1 % 12) a, upd u.2.2.1 (u.1 % 12) b, upd u.2.2.2 (u.1 % 12) c)
theorem ou_next : ∀ r, r < 12 → nI r + 1 - (nI r + 1) / 12 * 12 = nI ((r + 1) % 12) := by decide +kernel
theorem ou_held : ∀ r, r < 13 → (if 12 < nI r + 1 then 12 else nI r + 1) = nI (min (r + 1) 12) := by decide +kernel
theorem c_ou_add {g : zG} {ws : va_W} {post : Option Value → va_W → Prop} {A : Nat → Nat} {R : va_W} {u : hOu} {a b c : Int32} (hs : zHas ws (ouN g A u ++ R)) (k : ∀ w, zHas w (ouN g A (ouAdd u a b c) ++ R) → post none w) : zC g i_Ou_add [.ref (A 1), .int a, .int b, .int c] ws post := by
  have h12 : u.1 % 12 < 12 := Nat.mod_lt _ (by decide)
  refine c_Ou_add hs (vp_in_nI h12 (by decide)) fun w h => k w ?_
  rw [nI_clamp (by omega), ou_next _ h12, ou_held _ (by omega), nI_1] at h
  have e1 : (u.1 % 12 + 1) % 12 = (u.1 + 1) % 12 := by omega
  have e2 : min (min u.1 12 + 1) 12 = min (u.1 + 1) 12 := by omega
  rw [e1, e2] at h
  exact h
theorem zHas.f1 {ws b c : va_W} {h : Nat × va_E} (hs : zHas ws (h :: (b ++ c))) : zHas ws (b ++ (h :: c)) := hs.perm List.perm_middle.symm
theorem zHas.f1' {ws b c : va_W} {h : Nat × va_E} (hs : zHas ws (b ++ (h :: c))) : zHas ws (h :: (b ++ c)) := hs.perm List.perm_middle
theorem zHas.f2 {ws b c : va_W} {h e : Nat × va_E} (hs : zHas ws (h :: (b ++ (e :: c)))) : zHas ws (e :: (h :: (b ++ c))) := hs.perm ((List.Perm.cons h List.perm_middle).trans (List.Perm.swap _ _ _))
theorem zHas.f2' {ws b c : va_W} {h e : Nat × va_E} (hs : zHas ws (e :: (h :: (b ++ c)))) : zHas ws (h :: (b ++ (e :: c))) := hs.perm ((List.Perm.swap _ _ _).trans (List.Perm.cons h List.perm_middle.symm))
def zend (t life : Int32) : Int32 := if life = 1000 then 2147483647 else t + life
def oaS (x : zOD) (s : Int32) : zOD := (x.1, x.2.1, s, x.2.2.2)
/-- an own address as it ages: whether it is probed for; what becomes of it -/
def oaP (t : Int32) (x : zOD) : Bool := decide (x.2.2.1 = 1) && !decide (2 ≤ t - x.2.1)
def oaA (t : Int32) (x : zOD) : zOD := if x.2.2.1 = 2 ∧ ¬ t < x.2.2.2.2 then oaS x 3 else if x.2.2.1 = 1 ∧ 2 ≤ t - x.2.1 then (if t < x.2.2.2.2 then oaS x 2 else oaS x 3) else x
def ndS (x : zND) (s t : Int32) : zND := (x.1, x.2.1, s, t, x.2.2.2.2)
def askTo (x : zND) : Int32 := if x.2.2.1 = 1 then 65535 else x.1
/-- a neighbour as it ages: whether it is asked for; what becomes of it -/
def ndA (t : Int32) (x : zND) : zND := if zasked x.2.2.1 then x else if x.2.2.1 = 2 ∧ ¬ t - x.2.2.2.1 < 10 then ndS x 3 t else if x.2.2.1 = 4 ∧ ¬ t - x.2.2.2.1 < 5 then ndS x 5 t else x
def ndQ (t : Int32) (x : zND) : Bool := if zasked x.2.2.1 then !decide (3 ≤ t - x.2.2.2.1) else (decide (x.2.2.1 = 4) && !decide (t - x.2.2.2.1 < 5))
/-- a packet goes to a neighbour -/
def ndD (t : Int32) (x : zND) : zND := if x.2.2.1 = 3 then ndS x 4 t else x
def ndW (x : zND) (n : Int32) : zND := (x.1, x.2.1, x.2.2.1, x.2.2.2.1, x.2.2.2.2.1, n)
def oaR (t v p : Int32) (x : zOD) : zOD :=
  let s := if x.2.2.1 = 1 then x.2.2.1 else if p = 0 then 3 else 2
  let e := if 20 < v ∨ x.2.2.2.1 - t < v then zend t v else if 20 < x.2.2.2.1 - t then zend t 20 else x.2.2.2.1
  (x.1, x.2.1, s, e, zend t p)
end ZHost
theorem c_Ho_probe {g : zG} {ws : va_W} {post : Option Value → va_W → Prop} {A : Nat → Nat} {s : hSc} {u : hOu} {b : Nat} {R : va_W} {x : zOD} (hs : zHas ws (hoC A s :: (ouN g A u ++ ((b, .inr (5, odV x)) :: R)))) (k : ∀ w, zHas w (hoC A s :: (ouN g A (ouAdd u 1 65535 x.1) ++ ((b, .inr (5, odV x)) :: R))) → post none w) : zC g i_Ho_probe [.ref (A 0), .ref b] ws post := by
  refine zC.intro (by decide +kernel) rfl (Nat.le_of_ble_eq_true rfl) fun x0 hq => ?_
  refine zo_aload_n (i := i_Ho_probe) (pc := 0) d_Ho_probe_0 rfl rfl ?_
  refine zo_get (i := i_Ho_probe) (pc := 1) 9 1 rfl zok_Ho (Nat.le_of_ble_eq_true rfl) (ztb_of k_263 rfl) d_Ho_probe_1 (fun _ _ _ h => h) (hs.get (t := 0) rfl) rfl ?_
  refine zo_iconst (i := i_Ho_probe) (pc := 4) (v := 1) d_Ho_probe_4 (by decide) ?_
  refine zo_ldc (i := i_Ho_probe) (pc := 5) d_Ho_probe_5 (ztb_of k_256 rfl) ?_
  refine zo_aload_n (i := i_Ho_probe) (pc := 7) d_Ho_probe_7 rfl rfl ?_
  refine zo_getN (i := i_Ho_probe) (pc := 8) 5 0 rfl zok_Oa (Nat.le_of_ble_eq_true rfl) (ztb_of k_170 rfl) d_Ho_probe_8 (fun _ _ _ h => h) (hs.get (t := 5) rfl) rfl ?_
  refine zc_VN3 (i := i_Ho_probe) (pc := 11) 4 rfl m_Ou_add (ztb_of k_257 rfl) (ztb_of k_259 rfl) s_Ou_add d_Ho_probe_11 (Nat.le_of_ble_eq_true rfl) (Nat.le_of_ble_eq_true rfl) (Nat.le_of_ble_eq_true rfl) (Nat.le_of_ble_eq_true rfl) (hs.get (t := 1) rfl) (c_ou_add hs.f1 fun ws hs => ?_)
  replace hs := hs.f1'
  refine zo_return (i := i_Ho_probe) (pc := 14) hq d_Ho_probe_14 rfl (Nat.le_of_ble_eq_true rfl) (Nat.le_of_ble_eq_true rfl) ?_
  exact k ws hs
theorem c_Ho_ask {g : zG} {ws : va_W} {post : Option Value → va_W → Prop} {A : Nat → Nat} {s : hSc} {u : hOu} {b : Nat} {R : va_W} {x : zND} (hs : zHas ws (hoC A s :: (ouN g A u ++ ((b, .inr (2, ndV x)) :: R)))) (k : ∀ w, zHas w (hoC A s :: (ouN g A (ouAdd u 2 (askTo x) x.1) ++ ((b, .inr (2, ndV x)) :: R))) → post none w) : zC g i_Ho_ask [.ref (A 0), .ref b] ws post := by
  refine zC.intro (by decide +kernel) rfl (Nat.le_of_ble_eq_true rfl) fun x0 hq => ?_
  refine zo_aload_n (i := i_Ho_ask) (pc := 0) d_Ho_ask_0 rfl rfl ?_
  refine zo_get (i := i_Ho_ask) (pc := 1) 9 1 rfl zok_Ho (Nat.le_of_ble_eq_true rfl) (ztb_of k_263 rfl) d_Ho_ask_1 (fun _ _ _ h => h) (hs.get (t := 0) rfl) rfl ?_
  refine zo_iconst (i := i_Ho_ask) (pc := 4) (v := 2) d_Ho_ask_4 (by decide) ?_
  refine zo_aload_n (i := i_Ho_ask) (pc := 5) d_Ho_ask_5 rfl rfl ?_
  refine zo_getN (i := i_Ho_ask) (pc := 6) 2 2 rfl zok_Ne (Nat.le_of_ble_eq_true rfl) (ztb_of k_550 rfl) d_Ho_ask_6 (fun _ _ _ h => h) (hs.get (t := 5) rfl) rfl ?_
  refine zo_iconst (i := i_Ho_ask) (pc := 9) (v := 1) d_Ho_ask_9 (by decide) ?_
  refine zo_icmp_ne (i := i_Ho_ask) (pc := 10) (tgt := 18) d_Ho_ask_10 (by decide) (fun h10 => ?_) (fun h10 => ?_)
  · refine zo_aload_n (i := i_Ho_ask) (pc := 18) d_Ho_ask_18 rfl rfl ?_
    refine zo_getN (i := i_Ho_ask) (pc := 19) 2 0 rfl zok_Ne (Nat.le_of_ble_eq_true rfl) (ztb_of k_546 rfl) d_Ho_ask_19 (fun _ _ _ h => h) (hs.get (t := 5) rfl) rfl ?_
    refine zo_aload_n (i := i_Ho_ask) (pc := 22) d_Ho_ask_22 rfl rfl ?_
    refine zo_getN (i := i_Ho_ask) (pc := 23) 2 0 rfl zok_Ne (Nat.le_of_ble_eq_true rfl) (ztb_of k_546 rfl) d_Ho_ask_23 (fun _ _ _ h => h) (hs.get (t := 5) rfl) rfl ?_
    refine zc_VN3 (i := i_Ho_ask) (pc := 26) 4 rfl m_Ou_add (ztb_of k_257 rfl) (ztb_of k_259 rfl) s_Ou_add d_Ho_ask_26 (Nat.le_of_ble_eq_true rfl) (Nat.le_of_ble_eq_true rfl) (Nat.le_of_ble_eq_true rfl) (Nat.le_of_ble_eq_true rfl) (hs.get (t := 1) rfl) (c_ou_add hs.f1 fun ws hs => ?_)
    replace hs := hs.f1'
    refine zo_return (i := i_Ho_ask) (pc := 29) hq d_Ho_ask_29 rfl (Nat.le_of_ble_eq_true rfl) (Nat.le_of_ble_eq_true rfl) ?_
    refine k ws ?_
    first | (rw [askTo, if_pos h10]; exact hs) | (rw [askTo, if_neg h10]; exact hs)
  · refine zo_ldc (i := i_Ho_ask) (pc := 13) d_Ho_ask_13 (ztb_of k_256 rfl) ?_
    refine zo_goto (i := i_Ho_ask) (pc := 15) (tgt := 22) d_Ho_ask_15 (by decide) ?_
    refine zo_aload_n (i := i_Ho_ask) (pc := 22) d_Ho_ask_22 rfl rfl ?_
    refine zo_getN (i := i_Ho_ask) (pc := 23) 2 0 rfl zok_Ne (Nat.le_of_ble_eq_true rfl) (ztb_of k_546 rfl) d_Ho_ask_23 (fun _ _ _ h => h) (hs.get (t := 5) rfl) rfl ?_
    refine zc_VN3 (i := i_Ho_ask) (pc := 26) 4 rfl m_Ou_add (ztb_of k_257 rfl) (ztb_of k_259 rfl) s_Ou_add d_Ho_ask_26 (Nat.le_of_ble_eq_true rfl) (Nat.le_of_ble_eq_true rfl) (Nat.le_of_ble_eq_true rfl) (Nat.le_of_ble_eq_true rfl) (hs.get (t := 1) rfl) (c_ou_add hs.f1 fun ws hs => ?_)
    replace hs := hs.f1'
    refine zo_return (i := i_Ho_ask) (pc := 29) hq d_Ho_ask_29 rfl (Nat.le_of_ble_eq_true rfl) (Nat.le_of_ble_eq_true rfl) ?_
    refine k ws ?_
    first | (rw [askTo, if_pos h10]; exact hs) | (rw [askTo, if_neg h10]; exact hs)
theorem c_Ho_endOf {g : zG} {ws : va_W} {post : Option Value → va_W → Prop} {A : Nat → Nat} {s : hSc} {a : Int32} (he : zget ws (A 0) = some (hoC A s).2) (k : post (some (.int (zend s.2.1 a))) ws) : zC g i_Ho_endOf [.ref (A 0), .int a] ws post := by
  refine zC.intro (by decide +kernel) rfl (Nat.le_of_ble_eq_true rfl) fun x0 hq => ?_
  refine zo_iload_n (i := i_Ho_endOf) (pc := 0) d_Ho_endOf_0 rfl ?_
  refine zo_sipush (i := i_Ho_endOf) (pc := 1) (v := 1000) d_Ho_endOf_1 (by decide) ?_
  refine zo_icmp_ne (i := i_Ho_endOf) (pc := 4) (tgt := 12) d_Ho_endOf_4 (by decide) (fun h4 => ?_) (fun h4 => ?_)
  · refine zo_aload_n (i := i_Ho_endOf) (pc := 12) d_Ho_endOf_12 rfl rfl ?_
    refine zo_get (i := i_Ho_endOf) (pc := 13) 9 8 rfl zok_Ho (Nat.le_of_ble_eq_true rfl) (ztb_of k_270 rfl) d_Ho_endOf_13 (fun _ _ _ h => h) he rfl ?_
    refine zo_iload_n (i := i_Ho_endOf) (pc := 16) d_Ho_endOf_16 rfl ?_
    refine zo_iadd (i := i_Ho_endOf) (pc := 17) d_Ho_endOf_17 ?_
    refine zo_ireturn (i := i_Ho_endOf) (pc := 18) hq d_Ho_endOf_18 rfl (Nat.le_of_ble_eq_true rfl) (Nat.le_of_ble_eq_true rfl) ?_
    first | (rw [zend, if_pos h4] at k; exact k) | (rw [zend, if_neg h4] at k; exact k)
  · refine zo_ldc (i := i_Ho_endOf) (pc := 7) d_Ho_endOf_7 (ztb_of k_153 rfl) ?_
    refine zo_goto (i := i_Ho_endOf) (pc := 9) (tgt := 18) d_Ho_endOf_9 (by decide) ?_
    refine zo_ireturn (i := i_Ho_endOf) (pc := 18) hq d_Ho_endOf_18 rfl (Nat.le_of_ble_eq_true rfl) (Nat.le_of_ble_eq_true rfl) ?_
    first | (rw [zend, if_pos h4] at k; exact k) | (rw [zend, if_neg h4] at k; exact k)
theorem c_Ho_ageOwn {g : zG} {ws : va_W} {post : Option Value → va_W → Prop} {A : Nat → Nat} {s : hSc} {u : hOu} {b : Nat} {R : va_W} {x : zOD} (hs : zHas ws (hoC A s :: (ouN g A u ++ ((b, .inr (5, odV x)) :: R)))) (k : ∀ w, zHas w (hoC A s :: (ouN g A (if oaP s.2.1 x then ouAdd u 1 65535 x.1 else u) ++ ((b, .inr (5, odV (oaA s.2.1 x))) :: R))) → post none w) : zC g i_Ho_ageOwn [.ref (A 0), .ref b] ws post := by
  refine zC.intro (by decide +kernel) rfl (Nat.le_of_ble_eq_true rfl) fun x0 hq => ?_
  refine zo_aload_n (i := i_Ho_ageOwn) (pc := 0) d_Ho_ageOwn_0 rfl rfl ?_
  refine zo_get (i := i_Ho_ageOwn) (pc := 1) 9 8 rfl zok_Ho (Nat.le_of_ble_eq_true rfl) (ztb_of k_270 rfl) d_Ho_ageOwn_1 (fun _ _ _ h => h) (hs.get (t := 0) rfl) rfl ?_
  refine zo_aload_n (i := i_Ho_ageOwn) (pc := 4) d_Ho_ageOwn_4 rfl rfl ?_
  refine zo_getN (i := i_Ho_ageOwn) (pc := 5) 5 4 rfl zok_Oa (Nat.le_of_ble_eq_true rfl) (ztb_of k_179 rfl) d_Ho_ageOwn_5 (fun _ _ _ h => h) (hs.get (t := 5) rfl) rfl ?_
  refine zo_icmp_lt (i := i_Ho_ageOwn) (pc := 8) (tgt := 15) d_Ho_ageOwn_8 (by decide) (fun h8 => ?_) (fun h8 => ?_)
  · refine zo_iconst (i := i_Ho_ageOwn) (pc := 15) (v := 0) d_Ho_ageOwn_15 (by decide) ?_
    refine zo_istore_n (i := i_Ho_ageOwn) (pc := 16) d_Ho_ageOwn_16 (Nat.le_of_ble_eq_true rfl) ?_
    refine zo_aload_n (i := i_Ho_ageOwn) (pc := 17) d_Ho_ageOwn_17 rfl rfl ?_
    refine zo_getN (i := i_Ho_ageOwn) (pc := 18) 5 2 rfl zok_Oa (Nat.le_of_ble_eq_true rfl) (ztb_of k_174 rfl) d_Ho_ageOwn_18 (fun _ _ _ h => h) (hs.get (t := 5) rfl) rfl ?_
    refine zo_iconst (i := i_Ho_ageOwn) (pc := 21) (v := 2) d_Ho_ageOwn_21 (by decide) ?_
    refine zo_icmp_ne (i := i_Ho_ageOwn) (pc := 22) (tgt := 37) d_Ho_ageOwn_22 (by decide) (fun h22 => ?_) (fun h22 => ?_)
    · refine zo_aload_n (i := i_Ho_ageOwn) (pc := 37) d_Ho_ageOwn_37 rfl rfl ?_
      refine zo_getN (i := i_Ho_ageOwn) (pc := 38) 5 2 rfl zok_Oa (Nat.le_of_ble_eq_true rfl) (ztb_of k_174 rfl) d_Ho_ageOwn_38 (fun _ _ _ h => h) (hs.get (t := 5) rfl) rfl ?_
      refine zo_iconst (i := i_Ho_ageOwn) (pc := 41) (v := 1) d_Ho_ageOwn_41 (by decide) ?_
      refine zo_icmp_ne (i := i_Ho_ageOwn) (pc := 42) (tgt := 79) d_Ho_ageOwn_42 (by decide) (fun h42 => ?_) (fun h42 => ?_)
      · refine zo_return (i := i_Ho_ageOwn) (pc := 79) hq d_Ho_ageOwn_79 rfl (Nat.le_of_ble_eq_true rfl) (Nat.le_of_ble_eq_true rfl) ?_
        refine k ws ?_
        rw [show oaP s.2.1 x = false by first | (simp [oaP, h8, h22, h42]; done) | (simp [oaP, zasked, h8, h22, h42]; done), show oaA s.2.1 x = x by first | (simp [oaA, h8, h22, h42]; done) | (simp [oaA, zasked, h8, h22, h42]; done)]
        exact hs
      · refine zo_aload_n (i := i_Ho_ageOwn) (pc := 45) d_Ho_ageOwn_45 rfl rfl ?_
        refine zo_get (i := i_Ho_ageOwn) (pc := 46) 9 8 rfl zok_Ho (Nat.le_of_ble_eq_true rfl) (ztb_of k_270 rfl) d_Ho_ageOwn_46 (fun _ _ _ h => h) (hs.get (t := 0) rfl) rfl ?_
        refine zo_aload_n (i := i_Ho_ageOwn) (pc := 49) d_Ho_ageOwn_49 rfl rfl ?_
        refine zo_getN (i := i_Ho_ageOwn) (pc := 50) 5 1 rfl zok_Oa (Nat.le_of_ble_eq_true rfl) (ztb_of k_172 rfl) d_Ho_ageOwn_50 (fun _ _ _ h => h) (hs.get (t := 5) rfl) rfl ?_
        refine zo_isub (i := i_Ho_ageOwn) (pc := 53) d_Ho_ageOwn_53 ?_
        refine zo_iconst (i := i_Ho_ageOwn) (pc := 54) (v := 2) d_Ho_ageOwn_54 (by decide) ?_
        refine zo_icmp_ge (i := i_Ho_ageOwn) (pc := 55) (tgt := 66) d_Ho_ageOwn_55 (by decide) (fun h55 => ?_) (fun h55 => ?_)
        · refine zo_aload_n (i := i_Ho_ageOwn) (pc := 66) d_Ho_ageOwn_66 rfl rfl ?_
          refine zo_iload_n (i := i_Ho_ageOwn) (pc := 67) d_Ho_ageOwn_67 rfl ?_
          refine zo_if_eq (i := i_Ho_ageOwn) (pc := 68) (tgt := 75) d_Ho_ageOwn_68 (by decide) (fun h68 => ?_) (fun h68 => False.elim (by first | exact absurd h68 (rfl) | exact absurd (rfl) h68))
          refine zo_iconst (i := i_Ho_ageOwn) (pc := 75) (v := 2) d_Ho_ageOwn_75 (by decide) ?_
          refine zh_putN (i := i_Ho_ageOwn) (pc := 76) 5 2 rfl zok_Oa (Nat.le_of_ble_eq_true rfl) (ztb_of k_174 rfl) rfl d_Ho_ageOwn_76 (fun _ _ _ h => h) (t_Oa_ok 2 (Nat.le_of_ble_eq_true rfl)) rfl rfl hs 5 rfl (Nat.le_of_ble_eq_true rfl) fun ws hs => ?_
          refine zo_return (i := i_Ho_ageOwn) (pc := 79) hq d_Ho_ageOwn_79 rfl (Nat.le_of_ble_eq_true rfl) (Nat.le_of_ble_eq_true rfl) ?_
          refine k ws ?_
          rw [show oaP s.2.1 x = false by first | (simp [oaP, h8, h22, h42, h55, h68]; done) | (simp [oaP, zasked, h8, h22, h42, h55, h68]; done), show oaA s.2.1 x = oaS x 2 by first | (simp [oaA, h8, h22, h42, h55, h68]; done) | (simp [oaA, zasked, h8, h22, h42, h55, h68]; done)]
          exact hs
        · refine zo_aload_n (i := i_Ho_ageOwn) (pc := 58) d_Ho_ageOwn_58 rfl rfl ?_
          refine zo_aload_n (i := i_Ho_ageOwn) (pc := 59) d_Ho_ageOwn_59 rfl rfl ?_
          refine zc_V1 (i := i_Ho_ageOwn) (pc := 60) 9 rfl m_Ho_probe (ztb_of k_252 rfl) (ztb_of k_254 rfl) s_Ho_probe d_Ho_ageOwn_60 (Nat.le_of_ble_eq_true rfl) (Nat.le_of_ble_eq_true rfl) (Nat.le_of_ble_eq_true rfl) (Nat.le_of_ble_eq_true rfl) (hs.get (t := 0) rfl) (c_Ho_probe hs fun ws hs => ?_)
          refine zo_goto (i := i_Ho_ageOwn) (pc := 63) (tgt := 79) d_Ho_ageOwn_63 (by decide) ?_
          refine zo_return (i := i_Ho_ageOwn) (pc := 79) hq d_Ho_ageOwn_79 rfl (Nat.le_of_ble_eq_true rfl) (Nat.le_of_ble_eq_true rfl) ?_
          refine k ws ?_
          rw [show oaP s.2.1 x = true by first | (simp [oaP, h8, h22, h42, h55]; done) | (simp [oaP, zasked, h8, h22, h42, h55]; done), show oaA s.2.1 x = x by first | (simp [oaA, h8, h22, h42, h55]; done) | (simp [oaA, zasked, h8, h22, h42, h55]; done)]
          exact hs
    · refine zo_iload_n (i := i_Ho_ageOwn) (pc := 25) d_Ho_ageOwn_25 rfl ?_
      refine zo_if_eq (i := i_Ho_ageOwn) (pc := 26) (tgt := 37) d_Ho_ageOwn_26 (by decide) (fun h26 => ?_) (fun h26 => False.elim (by first | exact absurd h26 (rfl) | exact absurd (rfl) h26))
      refine zo_aload_n (i := i_Ho_ageOwn) (pc := 37) d_Ho_ageOwn_37 rfl rfl ?_
      refine zo_getN (i := i_Ho_ageOwn) (pc := 38) 5 2 rfl zok_Oa (Nat.le_of_ble_eq_true rfl) (ztb_of k_174 rfl) d_Ho_ageOwn_38 (fun _ _ _ h => h) (hs.get (t := 5) rfl) rfl ?_
      refine zo_iconst (i := i_Ho_ageOwn) (pc := 41) (v := 1) d_Ho_ageOwn_41 (by decide) ?_
      refine zo_icmp_ne (i := i_Ho_ageOwn) (pc := 42) (tgt := 79) d_Ho_ageOwn_42 (by decide) (fun h42 => ?_) (fun h42 => False.elim (by first | exact absurd h42 (by rw [h22]; decide) | exact absurd (by rw [h22]; decide) h42))
      refine zo_return (i := i_Ho_ageOwn) (pc := 79) hq d_Ho_ageOwn_79 rfl (Nat.le_of_ble_eq_true rfl) (Nat.le_of_ble_eq_true rfl) ?_
      refine k ws ?_
      rw [show oaP s.2.1 x = false by first | (simp [oaP, h8, h22, h26, h42]; done) | (simp [oaP, zasked, h8, h22, h26, h42]; done), show oaA s.2.1 x = x by first | (simp [oaA, h8, h22, h26, h42]; done) | (simp [oaA, zasked, h8, h22, h26, h42]; done)]
      exact hs
  · refine zo_iconst (i := i_Ho_ageOwn) (pc := 11) (v := 1) d_Ho_ageOwn_11 (by decide) ?_
    refine zo_goto (i := i_Ho_ageOwn) (pc := 12) (tgt := 16) d_Ho_ageOwn_12 (by decide) ?_
    refine zo_istore_n (i := i_Ho_ageOwn) (pc := 16) d_Ho_ageOwn_16 (Nat.le_of_ble_eq_true rfl) ?_
    refine zo_aload_n (i := i_Ho_ageOwn) (pc := 17) d_Ho_ageOwn_17 rfl rfl ?_
    refine zo_getN (i := i_Ho_ageOwn) (pc := 18) 5 2 rfl zok_Oa (Nat.le_of_ble_eq_true rfl) (ztb_of k_174 rfl) d_Ho_ageOwn_18 (fun _ _ _ h => h) (hs.get (t := 5) rfl) rfl ?_
    refine zo_iconst (i := i_Ho_ageOwn) (pc := 21) (v := 2) d_Ho_ageOwn_21 (by decide) ?_
    refine zo_icmp_ne (i := i_Ho_ageOwn) (pc := 22) (tgt := 37) d_Ho_ageOwn_22 (by decide) (fun h22 => ?_) (fun h22 => ?_)
    · refine zo_aload_n (i := i_Ho_ageOwn) (pc := 37) d_Ho_ageOwn_37 rfl rfl ?_
      refine zo_getN (i := i_Ho_ageOwn) (pc := 38) 5 2 rfl zok_Oa (Nat.le_of_ble_eq_true rfl) (ztb_of k_174 rfl) d_Ho_ageOwn_38 (fun _ _ _ h => h) (hs.get (t := 5) rfl) rfl ?_
      refine zo_iconst (i := i_Ho_ageOwn) (pc := 41) (v := 1) d_Ho_ageOwn_41 (by decide) ?_
      refine zo_icmp_ne (i := i_Ho_ageOwn) (pc := 42) (tgt := 79) d_Ho_ageOwn_42 (by decide) (fun h42 => ?_) (fun h42 => ?_)
      · refine zo_return (i := i_Ho_ageOwn) (pc := 79) hq d_Ho_ageOwn_79 rfl (Nat.le_of_ble_eq_true rfl) (Nat.le_of_ble_eq_true rfl) ?_
        refine k ws ?_
        rw [show oaP s.2.1 x = false by first | (simp [oaP, h8, h22, h42]; done) | (simp [oaP, zasked, h8, h22, h42]; done), show oaA s.2.1 x = x by first | (simp [oaA, h8, h22, h42]; done) | (simp [oaA, zasked, h8, h22, h42]; done)]
        exact hs
      · refine zo_aload_n (i := i_Ho_ageOwn) (pc := 45) d_Ho_ageOwn_45 rfl rfl ?_
        refine zo_get (i := i_Ho_ageOwn) (pc := 46) 9 8 rfl zok_Ho (Nat.le_of_ble_eq_true rfl) (ztb_of k_270 rfl) d_Ho_ageOwn_46 (fun _ _ _ h => h) (hs.get (t := 0) rfl) rfl ?_
        refine zo_aload_n (i := i_Ho_ageOwn) (pc := 49) d_Ho_ageOwn_49 rfl rfl ?_
        refine zo_getN (i := i_Ho_ageOwn) (pc := 50) 5 1 rfl zok_Oa (Nat.le_of_ble_eq_true rfl) (ztb_of k_172 rfl) d_Ho_ageOwn_50 (fun _ _ _ h => h) (hs.get (t := 5) rfl) rfl ?_
        refine zo_isub (i := i_Ho_ageOwn) (pc := 53) d_Ho_ageOwn_53 ?_
        refine zo_iconst (i := i_Ho_ageOwn) (pc := 54) (v := 2) d_Ho_ageOwn_54 (by decide) ?_
        refine zo_icmp_ge (i := i_Ho_ageOwn) (pc := 55) (tgt := 66) d_Ho_ageOwn_55 (by decide) (fun h55 => ?_) (fun h55 => ?_)
        · refine zo_aload_n (i := i_Ho_ageOwn) (pc := 66) d_Ho_ageOwn_66 rfl rfl ?_
          refine zo_iload_n (i := i_Ho_ageOwn) (pc := 67) d_Ho_ageOwn_67 rfl ?_
          refine zo_if_eq (i := i_Ho_ageOwn) (pc := 68) (tgt := 75) d_Ho_ageOwn_68 (by decide) (fun h68 => False.elim (by first | exact absurd h68 (by decide) | exact absurd (by decide) h68)) (fun h68 => ?_)
          refine zo_iconst (i := i_Ho_ageOwn) (pc := 71) (v := 3) d_Ho_ageOwn_71 (by decide) ?_
          refine zo_goto (i := i_Ho_ageOwn) (pc := 72) (tgt := 76) d_Ho_ageOwn_72 (by decide) ?_
          refine zh_putN (i := i_Ho_ageOwn) (pc := 76) 5 2 rfl zok_Oa (Nat.le_of_ble_eq_true rfl) (ztb_of k_174 rfl) rfl d_Ho_ageOwn_76 (fun _ _ _ h => h) (t_Oa_ok 2 (Nat.le_of_ble_eq_true rfl)) rfl rfl hs 5 rfl (Nat.le_of_ble_eq_true rfl) fun ws hs => ?_
          refine zo_return (i := i_Ho_ageOwn) (pc := 79) hq d_Ho_ageOwn_79 rfl (Nat.le_of_ble_eq_true rfl) (Nat.le_of_ble_eq_true rfl) ?_
          refine k ws ?_
          rw [show oaP s.2.1 x = false by first | (simp [oaP, h8, h22, h42, h55, h68]; done) | (simp [oaP, zasked, h8, h22, h42, h55, h68]; done), show oaA s.2.1 x = oaS x 3 by first | (simp [oaA, h8, h22, h42, h55, h68]; done) | (simp [oaA, zasked, h8, h22, h42, h55, h68]; done)]
          exact hs
        · refine zo_aload_n (i := i_Ho_ageOwn) (pc := 58) d_Ho_ageOwn_58 rfl rfl ?_
          refine zo_aload_n (i := i_Ho_ageOwn) (pc := 59) d_Ho_ageOwn_59 rfl rfl ?_
          refine zc_V1 (i := i_Ho_ageOwn) (pc := 60) 9 rfl m_Ho_probe (ztb_of k_252 rfl) (ztb_of k_254 rfl) s_Ho_probe d_Ho_ageOwn_60 (Nat.le_of_ble_eq_true rfl) (Nat.le_of_ble_eq_true rfl) (Nat.le_of_ble_eq_true rfl) (Nat.le_of_ble_eq_true rfl) (hs.get (t := 0) rfl) (c_Ho_probe hs fun ws hs => ?_)
          refine zo_goto (i := i_Ho_ageOwn) (pc := 63) (tgt := 79) d_Ho_ageOwn_63 (by decide) ?_
          refine zo_return (i := i_Ho_ageOwn) (pc := 79) hq d_Ho_ageOwn_79 rfl (Nat.le_of_ble_eq_true rfl) (Nat.le_of_ble_eq_true rfl) ?_
          refine k ws ?_
          rw [show oaP s.2.1 x = true by first | (simp [oaP, h8, h22, h42, h55]; done) | (simp [oaP, zasked, h8, h22, h42, h55]; done), show oaA s.2.1 x = x by first | (simp [oaA, h8, h22, h42, h55]; done) | (simp [oaA, zasked, h8, h22, h42, h55]; done)]
          exact hs
    · refine zo_iload_n (i := i_Ho_ageOwn) (pc := 25) d_Ho_ageOwn_25 rfl ?_
      refine zo_if_eq (i := i_Ho_ageOwn) (pc := 26) (tgt := 37) d_Ho_ageOwn_26 (by decide) (fun h26 => False.elim (by first | exact absurd h26 (by decide) | exact absurd (by decide) h26)) (fun h26 => ?_)
      refine zo_aload_n (i := i_Ho_ageOwn) (pc := 29) d_Ho_ageOwn_29 rfl rfl ?_
      refine zo_iconst (i := i_Ho_ageOwn) (pc := 30) (v := 3) d_Ho_ageOwn_30 (by decide) ?_
      refine zh_putN (i := i_Ho_ageOwn) (pc := 31) 5 2 rfl zok_Oa (Nat.le_of_ble_eq_true rfl) (ztb_of k_174 rfl) rfl d_Ho_ageOwn_31 (fun _ _ _ h => h) (t_Oa_ok 2 (Nat.le_of_ble_eq_true rfl)) rfl rfl hs 5 rfl (Nat.le_of_ble_eq_true rfl) fun ws hs => ?_
      refine zo_goto (i := i_Ho_ageOwn) (pc := 34) (tgt := 79) d_Ho_ageOwn_34 (by decide) ?_
      refine zo_return (i := i_Ho_ageOwn) (pc := 79) hq d_Ho_ageOwn_79 rfl (Nat.le_of_ble_eq_true rfl) (Nat.le_of_ble_eq_true rfl) ?_
      refine k ws ?_
      rw [show oaP s.2.1 x = false by first | (simp [oaP, h8, h22, h26]; done) | (simp [oaP, zasked, h8, h22, h26]; done), show oaA s.2.1 x = oaS x 3 by first | (simp [oaA, h8, h22, h26]; done) | (simp [oaA, zasked, h8, h22, h26]; done)]
      exact hs
theorem c_Ho_ageNeighbour {g : zG} {ws : va_W} {post : Option Value → va_W → Prop} {A : Nat → Nat} {s : hSc} {u : hOu} {b : Nat} {R : va_W} {x : zND} (hs : zHas ws (hoC A s :: (ouN g A u ++ ((b, .inr (2, ndV x)) :: R)))) (k : ∀ w, zHas w (hoC A s :: (ouN g A (if ndQ s.2.1 x then ouAdd u 2 (askTo (ndA s.2.1 x)) x.1 else u) ++ ((b, .inr (2, ndV (ndA s.2.1 x))) :: R))) → post none w) : zC g i_Ho_ageNeighbour [.ref (A 0), .ref b] ws post := by
  refine zC.intro (by decide +kernel) rfl (Nat.le_of_ble_eq_true rfl) fun x0 hq => ?_
  refine zo_aload_n (i := i_Ho_ageNeighbour) (pc := 0) d_Ho_ageNeighbour_0 rfl rfl ?_
  refine zo_get (i := i_Ho_ageNeighbour) (pc := 1) 9 8 rfl zok_Ho (Nat.le_of_ble_eq_true rfl) (ztb_of k_270 rfl) d_Ho_ageNeighbour_1 (fun _ _ _ h => h) (hs.get (t := 0) rfl) rfl ?_
  refine zo_aload_n (i := i_Ho_ageNeighbour) (pc := 4) d_Ho_ageNeighbour_4 rfl rfl ?_
  refine zo_getN (i := i_Ho_ageNeighbour) (pc := 5) 2 3 rfl zok_Ne (Nat.le_of_ble_eq_true rfl) (ztb_of k_553 rfl) d_Ho_ageNeighbour_5 (fun _ _ _ h => h) (hs.get (t := 5) rfl) rfl ?_
  refine zo_isub (i := i_Ho_ageNeighbour) (pc := 8) d_Ho_ageNeighbour_8 ?_
  refine zo_istore_n (i := i_Ho_ageNeighbour) (pc := 9) d_Ho_ageNeighbour_9 (Nat.le_of_ble_eq_true rfl) ?_
  refine zo_aload_n (i := i_Ho_ageNeighbour) (pc := 10) d_Ho_ageNeighbour_10 rfl rfl ?_
  refine zc_VN0 (i := i_Ho_ageNeighbour) (pc := 11) 2 rfl m_Ne_isAskedFor (ztb_of k_477 rfl) (ztb_of k_479 rfl) s_Ne_isAskedFor d_Ho_ageNeighbour_11 (Nat.le_of_ble_eq_true rfl) (Nat.le_of_ble_eq_true rfl) (Nat.le_of_ble_eq_true rfl) (Nat.le_of_ble_eq_true rfl) (hs.get (t := 5) rfl) (c_Ne_isAskedFor (hs.get (t := 5) rfl) ?_)
  refine zo_if_eq (i := i_Ho_ageNeighbour) (pc := 14) (tgt := 30) d_Ho_ageNeighbour_14 (by decide) (fun h14 => ?_) (fun h14 => ?_)
  · rw [zb_0] at h14
    refine zo_aload_n (i := i_Ho_ageNeighbour) (pc := 30) d_Ho_ageNeighbour_30 rfl rfl ?_
    refine zo_getN (i := i_Ho_ageNeighbour) (pc := 31) 2 2 rfl zok_Ne (Nat.le_of_ble_eq_true rfl) (ztb_of k_550 rfl) d_Ho_ageNeighbour_31 (fun _ _ _ h => h) (hs.get (t := 5) rfl) rfl ?_
    refine zo_iconst (i := i_Ho_ageNeighbour) (pc := 34) (v := 2) d_Ho_ageNeighbour_34 (by decide) ?_
    refine zo_icmp_ne (i := i_Ho_ageNeighbour) (pc := 35) (tgt := 56) d_Ho_ageNeighbour_35 (by decide) (fun h35 => ?_) (fun h35 => ?_)
    · refine zo_aload_n (i := i_Ho_ageNeighbour) (pc := 56) d_Ho_ageNeighbour_56 rfl rfl ?_
      refine zo_getN (i := i_Ho_ageNeighbour) (pc := 57) 2 2 rfl zok_Ne (Nat.le_of_ble_eq_true rfl) (ztb_of k_550 rfl) d_Ho_ageNeighbour_57 (fun _ _ _ h => h) (hs.get (t := 5) rfl) rfl ?_
      refine zo_iconst (i := i_Ho_ageNeighbour) (pc := 60) (v := 4) d_Ho_ageNeighbour_60 (by decide) ?_
      refine zo_icmp_ne (i := i_Ho_ageNeighbour) (pc := 61) (tgt := 83) d_Ho_ageNeighbour_61 (by decide) (fun h61 => ?_) (fun h61 => ?_)
      · refine zo_return (i := i_Ho_ageNeighbour) (pc := 83) hq d_Ho_ageNeighbour_83 rfl (Nat.le_of_ble_eq_true rfl) (Nat.le_of_ble_eq_true rfl) ?_
        refine k ws ?_
        rw [show ndQ s.2.1 x = false by first | (simp [ndQ, h14, h35, h61]; done) | (simp [ndQ, zasked, h14, h35, h61]; done), show ndA s.2.1 x = x by first | (simp [ndA, h14, h35, h61]; done) | (simp [ndA, zasked, h14, h35, h61]; done)]
        exact hs
      · refine zo_iload_n (i := i_Ho_ageNeighbour) (pc := 64) d_Ho_ageNeighbour_64 rfl ?_
        refine zo_iconst (i := i_Ho_ageNeighbour) (pc := 65) (v := 5) d_Ho_ageNeighbour_65 (by decide) ?_
        refine zo_icmp_lt (i := i_Ho_ageNeighbour) (pc := 66) (tgt := 83) d_Ho_ageNeighbour_66 (by decide) (fun h66 => ?_) (fun h66 => ?_)
        · refine zo_return (i := i_Ho_ageNeighbour) (pc := 83) hq d_Ho_ageNeighbour_83 rfl (Nat.le_of_ble_eq_true rfl) (Nat.le_of_ble_eq_true rfl) ?_
          refine k ws ?_
          rw [show ndQ s.2.1 x = false by first | (simp [ndQ, h14, h35, h61, h66]; done) | (simp [ndQ, zasked, h14, h35, h61, h66]; done), show ndA s.2.1 x = x by first | (simp [ndA, h14, h35, h61, h66]; done) | (simp [ndA, zasked, h14, h35, h61, h66]; done)]
          exact hs
        · refine zo_aload_n (i := i_Ho_ageNeighbour) (pc := 69) d_Ho_ageNeighbour_69 rfl rfl ?_
          refine zo_iconst (i := i_Ho_ageNeighbour) (pc := 70) (v := 5) d_Ho_ageNeighbour_70 (by decide) ?_
          refine zo_aload_n (i := i_Ho_ageNeighbour) (pc := 71) d_Ho_ageNeighbour_71 rfl rfl ?_
          refine zo_get (i := i_Ho_ageNeighbour) (pc := 72) 9 8 rfl zok_Ho (Nat.le_of_ble_eq_true rfl) (ztb_of k_270 rfl) d_Ho_ageNeighbour_72 (fun _ _ _ h => h) (hs.get (t := 0) rfl) rfl ?_
          refine zc_VN2 (i := i_Ho_ageNeighbour) (pc := 75) 2 rfl m_Ne_enter (ztb_of k_485 rfl) (ztb_of k_487 rfl) s_Ne_enter d_Ho_ageNeighbour_75 (Nat.le_of_ble_eq_true rfl) (Nat.le_of_ble_eq_true rfl) (Nat.le_of_ble_eq_true rfl) (Nat.le_of_ble_eq_true rfl) (hs.get (t := 5) rfl) (c_Ne_enter hs.f2 fun ws hs => ?_)
          replace hs := hs.f2'
          refine zo_aload_n (i := i_Ho_ageNeighbour) (pc := 78) d_Ho_ageNeighbour_78 rfl rfl ?_
          refine zo_aload_n (i := i_Ho_ageNeighbour) (pc := 79) d_Ho_ageNeighbour_79 rfl rfl ?_
          refine zc_V1 (i := i_Ho_ageNeighbour) (pc := 80) 9 rfl m_Ho_ask (ztb_of k_481 rfl) (ztb_of k_483 rfl) s_Ho_ask d_Ho_ageNeighbour_80 (Nat.le_of_ble_eq_true rfl) (Nat.le_of_ble_eq_true rfl) (Nat.le_of_ble_eq_true rfl) (Nat.le_of_ble_eq_true rfl) (hs.get (t := 0) rfl) (c_Ho_ask hs fun ws hs => ?_)
          refine zo_return (i := i_Ho_ageNeighbour) (pc := 83) hq d_Ho_ageNeighbour_83 rfl (Nat.le_of_ble_eq_true rfl) (Nat.le_of_ble_eq_true rfl) ?_
          refine k ws ?_
          rw [show ndQ s.2.1 x = true by first | (simp [ndQ, h14, h35, h61, h66]; done) | (simp [ndQ, zasked, h14, h35, h61, h66]; done), show ndA s.2.1 x = ndS x 5 s.2.1 by first | (simp [ndA, h14, h35, h61, h66]; done) | (simp [ndA, zasked, h14, h35, h61, h66]; done)]
          exact hs
    · refine zo_iload_n (i := i_Ho_ageNeighbour) (pc := 38) d_Ho_ageNeighbour_38 rfl ?_
      refine zo_bipush (i := i_Ho_ageNeighbour) (pc := 39) (v := 10) d_Ho_ageNeighbour_39 (by decide) ?_
      refine zo_icmp_lt (i := i_Ho_ageNeighbour) (pc := 41) (tgt := 56) d_Ho_ageNeighbour_41 (by decide) (fun h41 => ?_) (fun h41 => ?_)
      · refine zo_aload_n (i := i_Ho_ageNeighbour) (pc := 56) d_Ho_ageNeighbour_56 rfl rfl ?_
        refine zo_getN (i := i_Ho_ageNeighbour) (pc := 57) 2 2 rfl zok_Ne (Nat.le_of_ble_eq_true rfl) (ztb_of k_550 rfl) d_Ho_ageNeighbour_57 (fun _ _ _ h => h) (hs.get (t := 5) rfl) rfl ?_
        refine zo_iconst (i := i_Ho_ageNeighbour) (pc := 60) (v := 4) d_Ho_ageNeighbour_60 (by decide) ?_
        refine zo_icmp_ne (i := i_Ho_ageNeighbour) (pc := 61) (tgt := 83) d_Ho_ageNeighbour_61 (by decide) (fun h61 => ?_) (fun h61 => False.elim (by first | exact absurd h61 (by rw [h35]; decide) | exact absurd (by rw [h35]; decide) h61))
        refine zo_return (i := i_Ho_ageNeighbour) (pc := 83) hq d_Ho_ageNeighbour_83 rfl (Nat.le_of_ble_eq_true rfl) (Nat.le_of_ble_eq_true rfl) ?_
        refine k ws ?_
        rw [show ndQ s.2.1 x = false by first | (simp [ndQ, h14, h35, h41, h61]; done) | (simp [ndQ, zasked, h14, h35, h41, h61]; done), show ndA s.2.1 x = x by first | (simp [ndA, h14, h35, h41, h61]; done) | (simp [ndA, zasked, h14, h35, h41, h61]; done)]
        exact hs
      · refine zo_aload_n (i := i_Ho_ageNeighbour) (pc := 44) d_Ho_ageNeighbour_44 rfl rfl ?_
        refine zo_iconst (i := i_Ho_ageNeighbour) (pc := 45) (v := 3) d_Ho_ageNeighbour_45 (by decide) ?_
        refine zo_aload_n (i := i_Ho_ageNeighbour) (pc := 46) d_Ho_ageNeighbour_46 rfl rfl ?_
        refine zo_get (i := i_Ho_ageNeighbour) (pc := 47) 9 8 rfl zok_Ho (Nat.le_of_ble_eq_true rfl) (ztb_of k_270 rfl) d_Ho_ageNeighbour_47 (fun _ _ _ h => h) (hs.get (t := 0) rfl) rfl ?_
        refine zc_VN2 (i := i_Ho_ageNeighbour) (pc := 50) 2 rfl m_Ne_enter (ztb_of k_485 rfl) (ztb_of k_487 rfl) s_Ne_enter d_Ho_ageNeighbour_50 (Nat.le_of_ble_eq_true rfl) (Nat.le_of_ble_eq_true rfl) (Nat.le_of_ble_eq_true rfl) (Nat.le_of_ble_eq_true rfl) (hs.get (t := 5) rfl) (c_Ne_enter hs.f2 fun ws hs => ?_)
        replace hs := hs.f2'
        refine zo_goto (i := i_Ho_ageNeighbour) (pc := 53) (tgt := 83) d_Ho_ageNeighbour_53 (by decide) ?_
        refine zo_return (i := i_Ho_ageNeighbour) (pc := 83) hq d_Ho_ageNeighbour_83 rfl (Nat.le_of_ble_eq_true rfl) (Nat.le_of_ble_eq_true rfl) ?_
        refine k ws ?_
        rw [show ndQ s.2.1 x = false by first | (simp [ndQ, h14, h35, h41]; done) | (simp [ndQ, zasked, h14, h35, h41]; done), show ndA s.2.1 x = ndS x 3 s.2.1 by first | (simp [ndA, h14, h35, h41]; done) | (simp [ndA, zasked, h14, h35, h41]; done)]
        exact hs
  · rw [zb_0, Bool.not_eq_false] at h14
    refine zo_iload_n (i := i_Ho_ageNeighbour) (pc := 17) d_Ho_ageNeighbour_17 rfl ?_
    refine zo_iconst (i := i_Ho_ageNeighbour) (pc := 18) (v := 3) d_Ho_ageNeighbour_18 (by decide) ?_
    refine zo_icmp_ge (i := i_Ho_ageNeighbour) (pc := 19) (tgt := 83) d_Ho_ageNeighbour_19 (by decide) (fun h19 => ?_) (fun h19 => ?_)
    · refine zo_return (i := i_Ho_ageNeighbour) (pc := 83) hq d_Ho_ageNeighbour_83 rfl (Nat.le_of_ble_eq_true rfl) (Nat.le_of_ble_eq_true rfl) ?_
      refine k ws ?_
      rw [show ndQ s.2.1 x = false by first | (simp [ndQ, h14, h19]; done) | (simp [ndQ, zasked, h14, h19]; done), show ndA s.2.1 x = x by first | (simp [ndA, h14, h19]; done) | (simp [ndA, zasked, h14, h19]; done)]
      exact hs
    · refine zo_aload_n (i := i_Ho_ageNeighbour) (pc := 22) d_Ho_ageNeighbour_22 rfl rfl ?_
      refine zo_aload_n (i := i_Ho_ageNeighbour) (pc := 23) d_Ho_ageNeighbour_23 rfl rfl ?_
      refine zc_V1 (i := i_Ho_ageNeighbour) (pc := 24) 9 rfl m_Ho_ask (ztb_of k_481 rfl) (ztb_of k_483 rfl) s_Ho_ask d_Ho_ageNeighbour_24 (Nat.le_of_ble_eq_true rfl) (Nat.le_of_ble_eq_true rfl) (Nat.le_of_ble_eq_true rfl) (Nat.le_of_ble_eq_true rfl) (hs.get (t := 0) rfl) (c_Ho_ask hs fun ws hs => ?_)
      refine zo_goto (i := i_Ho_ageNeighbour) (pc := 27) (tgt := 83) d_Ho_ageNeighbour_27 (by decide) ?_
      refine zo_return (i := i_Ho_ageNeighbour) (pc := 83) hq d_Ho_ageNeighbour_83 rfl (Nat.le_of_ble_eq_true rfl) (Nat.le_of_ble_eq_true rfl) ?_
      refine k ws ?_
      rw [show ndQ s.2.1 x = true by first | (simp [ndQ, h14, h19]; done) | (simp [ndQ, zasked, h14, h19]; done), show ndA s.2.1 x = x by first | (simp [ndA, h14, h19]; done) | (simp [ndA, zasked, h14, h19]; done)]
      exact hs
theorem c_Ho_deliver {g : zG} {ws : va_W} {post : Option Value → va_W → Prop} {A : Nat → Nat} {s : hSc} {u : hOu} {b : Nat} {R : va_W} {x : zND} {n : Int32} (hs : zHas ws (hoC A s :: (ouN g A u ++ ((b, .inr (2, ndV x)) :: R)))) (k : ∀ w, zHas w (hoC A s :: (ouN g A (ouAdd u 4 x.1 n) ++ ((b, .inr (2, ndV (ndD s.2.1 x))) :: R))) → post none w) : zC g i_Ho_deliver [.ref (A 0), .ref b, .int n] ws post := by
  refine zC.intro (by decide +kernel) rfl (Nat.le_of_ble_eq_true rfl) fun x0 hq => ?_
  refine zo_aload_n (i := i_Ho_deliver) (pc := 0) d_Ho_deliver_0 rfl rfl ?_
  refine zo_get (i := i_Ho_deliver) (pc := 1) 9 1 rfl zok_Ho (Nat.le_of_ble_eq_true rfl) (ztb_of k_263 rfl) d_Ho_deliver_1 (fun _ _ _ h => h) (hs.get (t := 0) rfl) rfl ?_
  refine zo_iconst (i := i_Ho_deliver) (pc := 4) (v := 4) d_Ho_deliver_4 (by decide) ?_
  refine zo_aload_n (i := i_Ho_deliver) (pc := 5) d_Ho_deliver_5 rfl rfl ?_
  refine zo_getN (i := i_Ho_deliver) (pc := 6) 2 0 rfl zok_Ne (Nat.le_of_ble_eq_true rfl) (ztb_of k_546 rfl) d_Ho_deliver_6 (fun _ _ _ h => h) (hs.get (t := 5) rfl) rfl ?_
  refine zo_iload_n (i := i_Ho_deliver) (pc := 9) d_Ho_deliver_9 rfl ?_
  refine zc_VN3 (i := i_Ho_deliver) (pc := 10) 4 rfl m_Ou_add (ztb_of k_257 rfl) (ztb_of k_259 rfl) s_Ou_add d_Ho_deliver_10 (Nat.le_of_ble_eq_true rfl) (Nat.le_of_ble_eq_true rfl) (Nat.le_of_ble_eq_true rfl) (Nat.le_of_ble_eq_true rfl) (hs.get (t := 1) rfl) (c_ou_add hs.f1 fun ws hs => ?_)
  replace hs := hs.f1'
  refine zo_aload_n (i := i_Ho_deliver) (pc := 13) d_Ho_deliver_13 rfl rfl ?_
  refine zo_getN (i := i_Ho_deliver) (pc := 14) 2 2 rfl zok_Ne (Nat.le_of_ble_eq_true rfl) (ztb_of k_550 rfl) d_Ho_deliver_14 (fun _ _ _ h => h) (hs.get (t := 5) rfl) rfl ?_
  refine zo_iconst (i := i_Ho_deliver) (pc := 17) (v := 3) d_Ho_deliver_17 (by decide) ?_
  refine zo_icmp_ne (i := i_Ho_deliver) (pc := 18) (tgt := 30) d_Ho_deliver_18 (by decide) (fun h18 => ?_) (fun h18 => ?_)
  · refine zo_return (i := i_Ho_deliver) (pc := 30) hq d_Ho_deliver_30 rfl (Nat.le_of_ble_eq_true rfl) (Nat.le_of_ble_eq_true rfl) ?_
    refine k ws ?_
    first | (rw [ndD, if_pos h18]; exact hs) | (rw [ndD, if_neg h18]; exact hs)
  · refine zo_aload_n (i := i_Ho_deliver) (pc := 21) d_Ho_deliver_21 rfl rfl ?_
    refine zo_iconst (i := i_Ho_deliver) (pc := 22) (v := 4) d_Ho_deliver_22 (by decide) ?_
    refine zo_aload_n (i := i_Ho_deliver) (pc := 23) d_Ho_deliver_23 rfl rfl ?_
    refine zo_get (i := i_Ho_deliver) (pc := 24) 9 8 rfl zok_Ho (Nat.le_of_ble_eq_true rfl) (ztb_of k_270 rfl) d_Ho_deliver_24 (fun _ _ _ h => h) (hs.get (t := 0) rfl) rfl ?_
    refine zc_VN2 (i := i_Ho_deliver) (pc := 27) 2 rfl m_Ne_enter (ztb_of k_485 rfl) (ztb_of k_487 rfl) s_Ne_enter d_Ho_deliver_27 (Nat.le_of_ble_eq_true rfl) (Nat.le_of_ble_eq_true rfl) (Nat.le_of_ble_eq_true rfl) (Nat.le_of_ble_eq_true rfl) (hs.get (t := 5) rfl) (c_Ne_enter hs.f2 fun ws hs => ?_)
    replace hs := hs.f2'
    refine zo_return (i := i_Ho_deliver) (pc := 30) hq d_Ho_deliver_30 rfl (Nat.le_of_ble_eq_true rfl) (Nat.le_of_ble_eq_true rfl) ?_
    refine k ws ?_
    first | (rw [ndD, if_pos h18]; exact hs) | (rw [ndD, if_neg h18]; exact hs)
theorem c_Ho_sendWaiting {g : zG} {ws : va_W} {post : Option Value → va_W → Prop} {A : Nat → Nat} {s : hSc} {u : hOu} {b : Nat} {R : va_W} {x : zND} (hs : zHas ws (hoC A s :: (ouN g A u ++ ((b, .inr (2, ndV x)) :: R)))) (k : ∀ w, zHas w (hoC A s :: (ouN g A (if x.2.2.2.2.2 = 0 then u else ouAdd u 4 x.1 x.2.2.2.2.2) ++ ((b, .inr (2, ndV (if x.2.2.2.2.2 = 0 then x else ndW (ndD s.2.1 x) 0))) :: R))) → post none w) : zC g i_Ho_sendWaiting [.ref (A 0), .ref b] ws post := by
  refine zC.intro (by decide +kernel) rfl (Nat.le_of_ble_eq_true rfl) fun x0 hq => ?_
  refine zo_aload_n (i := i_Ho_sendWaiting) (pc := 0) d_Ho_sendWaiting_0 rfl rfl ?_
  refine zc_VN0 (i := i_Ho_sendWaiting) (pc := 1) 2 rfl m_Ne_hasWaiting (ztb_of k_332 rfl) (ztb_of k_334 rfl) s_Ne_hasWaiting d_Ho_sendWaiting_1 (Nat.le_of_ble_eq_true rfl) (Nat.le_of_ble_eq_true rfl) (Nat.le_of_ble_eq_true rfl) (Nat.le_of_ble_eq_true rfl) (hs.get (t := 5) rfl) (c_Ne_hasWaiting (hs.get (t := 5) rfl) ?_)
  refine zo_if_eq (i := i_Ho_sendWaiting) (pc := 4) (tgt := 21) d_Ho_sendWaiting_4 (by decide) (fun h4 => ?_) (fun h4 => ?_)
  · first
    | (rw [zb_0] at h4
       have h0 : x.2.2.2.2.2 = 0 := by simpa using h4)
    | skip
    refine zo_return (i := i_Ho_sendWaiting) (pc := 21) hq d_Ho_sendWaiting_21 rfl (Nat.le_of_ble_eq_true rfl) (Nat.le_of_ble_eq_true rfl) ?_
    refine k ws ?_
    first | (rw [if_pos h0, if_pos h0]; exact hs) | (rw [if_neg h0, if_neg h0]; exact hs)
  · rw [zb_0] at h4
    have h0 : ¬ x.2.2.2.2.2 = 0 := by simpa using h4
    refine zo_aload_n (i := i_Ho_sendWaiting) (pc := 7) d_Ho_sendWaiting_7 rfl rfl ?_
    refine zo_aload_n (i := i_Ho_sendWaiting) (pc := 8) d_Ho_sendWaiting_8 rfl rfl ?_
    refine zo_aload_n (i := i_Ho_sendWaiting) (pc := 9) d_Ho_sendWaiting_9 rfl rfl ?_
    refine zo_getN (i := i_Ho_sendWaiting) (pc := 10) 2 5 rfl zok_Ne (Nat.le_of_ble_eq_true rfl) (ztb_of k_557 rfl) d_Ho_sendWaiting_10 (fun _ _ _ h => h) (hs.get (t := 5) rfl) rfl ?_
    refine zc_V2 (i := i_Ho_sendWaiting) (pc := 13) 9 rfl m_Ho_deliver (ztb_of k_580 rfl) (ztb_of k_582 rfl) s_Ho_deliver d_Ho_sendWaiting_13 (Nat.le_of_ble_eq_true rfl) (Nat.le_of_ble_eq_true rfl) (Nat.le_of_ble_eq_true rfl) (Nat.le_of_ble_eq_true rfl) (hs.get (t := 0) rfl) (c_Ho_deliver hs fun ws hs => ?_)
    refine zo_aload_n (i := i_Ho_sendWaiting) (pc := 16) d_Ho_sendWaiting_16 rfl rfl ?_
    refine zo_iconst (i := i_Ho_sendWaiting) (pc := 17) (v := 0) d_Ho_sendWaiting_17 (by decide) ?_
    refine zh_putN (i := i_Ho_sendWaiting) (pc := 18) 2 5 rfl zok_Ne (Nat.le_of_ble_eq_true rfl) (ztb_of k_557 rfl) rfl d_Ho_sendWaiting_18 (fun _ _ _ h => h) (t_Ne_ok 5 (Nat.le_of_ble_eq_true rfl)) rfl rfl hs 5 rfl (Nat.le_of_ble_eq_true rfl) fun ws hs => ?_
    first
    | (rw [zb_0] at h4
       have h0 : x.2.2.2.2.2 = 0 := by simpa using h4)
    | skip
    refine zo_return (i := i_Ho_sendWaiting) (pc := 21) hq d_Ho_sendWaiting_21 rfl (Nat.le_of_ble_eq_true rfl) (Nat.le_of_ble_eq_true rfl) ?_
    refine k ws ?_
    first | (rw [if_pos h0, if_pos h0]; exact hs) | (rw [if_neg h0, if_neg h0]; exact hs)
theorem c_Ho_markDuplicate {g : zG} {ws : va_W} {post : Option Value → va_W → Prop} {A : Nat → Nat} {s : hSc} {u : hOu} {b : Nat} {R : va_W} {x : zOD} (hs : zHas ws (hoC A s :: (ouN g A u ++ ((b, .inr (5, odV x)) :: R)))) (k : ∀ w, zHas w (hoC A (s.1, s.2.1, s.2.2.1, s.2.2.2.1, s.2.2.2.2.1, s.2.2.2.2.2.1, s.2.2.2.2.2.2 || zlocal x.1) :: (ouN g A u ++ ((b, .inr (5, odV (oaS x 4))) :: R))) → post none w) : zC g i_Ho_markDuplicate [.ref (A 0), .ref b] ws post := by
  refine zC.intro (by decide +kernel) rfl (Nat.le_of_ble_eq_true rfl) fun x0 hq => ?_
  refine zo_aload_n (i := i_Ho_markDuplicate) (pc := 0) d_Ho_markDuplicate_0 rfl rfl ?_
  refine zo_iconst (i := i_Ho_markDuplicate) (pc := 1) (v := 4) d_Ho_markDuplicate_1 (by decide) ?_
  refine zh_putN (i := i_Ho_markDuplicate) (pc := 2) 5 2 rfl zok_Oa (Nat.le_of_ble_eq_true rfl) (ztb_of k_174 rfl) rfl d_Ho_markDuplicate_2 (fun _ _ _ h => h) (t_Oa_ok 2 (Nat.le_of_ble_eq_true rfl)) rfl rfl hs 5 rfl (Nat.le_of_ble_eq_true rfl) fun ws hs => ?_
  refine zo_aload_n (i := i_Ho_markDuplicate) (pc := 5) d_Ho_markDuplicate_5 rfl rfl ?_
  refine zo_getN (i := i_Ho_markDuplicate) (pc := 6) 5 0 rfl zok_Oa (Nat.le_of_ble_eq_true rfl) (ztb_of k_170 rfl) d_Ho_markDuplicate_6 (fun _ _ _ h => h) (hs.get (t := 5) rfl) rfl ?_
  refine zc_S1 (i := i_Ho_markDuplicate) (pc := 9) m_Ho_isLocal (ztb_of k_666 rfl) (ztb_of k_667 rfl) d_Ho_markDuplicate_9 (Nat.le_of_ble_eq_true rfl) (Nat.le_of_ble_eq_true rfl) (Nat.le_of_ble_eq_true rfl) (Nat.le_of_ble_eq_true rfl) (c_Ho_isLocal ?_)
  refine zo_if_eq (i := i_Ho_markDuplicate) (pc := 12) (tgt := 20) d_Ho_markDuplicate_12 (by decide) (fun h12 => ?_) (fun h12 => ?_)
  · refine zo_return (i := i_Ho_markDuplicate) (pc := 20) hq d_Ho_markDuplicate_20 rfl (Nat.le_of_ble_eq_true rfl) (Nat.le_of_ble_eq_true rfl) ?_
    refine k ws ?_
    first | (rw [zb_0.mp h12, Bool.or_false]; exact hs) | (rw [zb_0, Bool.not_eq_false] at h12; rw [h12, Bool.or_true]; exact hs)
  · refine zo_aload_n (i := i_Ho_markDuplicate) (pc := 15) d_Ho_markDuplicate_15 rfl rfl ?_
    refine zo_iconst (i := i_Ho_markDuplicate) (pc := 16) (v := 1) d_Ho_markDuplicate_16 (by decide) ?_
    refine zh_put (i := i_Ho_markDuplicate) (pc := 17) 9 13 rfl zok_Ho (Nat.le_of_ble_eq_true rfl) (ztb_of k_275 rfl) rfl d_Ho_markDuplicate_17 (fun _ _ _ h => h) (t_Ho_ok 13 (Nat.le_of_ble_eq_true rfl)) rfl rfl hs 0 rfl (Nat.le_of_ble_eq_true rfl) fun ws hs => ?_
    refine zo_return (i := i_Ho_markDuplicate) (pc := 20) hq d_Ho_markDuplicate_20 rfl (Nat.le_of_ble_eq_true rfl) (Nat.le_of_ble_eq_true rfl) ?_
    refine k ws ?_
    first | (rw [zb_0.mp h12, Bool.or_false]; exact hs) | (rw [zb_0, Bool.not_eq_false] at h12; rw [h12, Bool.or_true]; exact hs)
theorem c_Ho_renew {g : zG} {ws : va_W} {post : Option Value → va_W → Prop} {A : Nat → Nat} {s : hSc} {u : hOu} {b : Nat} {R : va_W} {x : zOD} {v p : Int32} (hs : zHas ws (hoC A s :: (ouN g A u ++ ((b, .inr (5, odV x)) :: R)))) (k : ∀ w, zHas w (hoC A s :: (ouN g A u ++ ((b, .inr (5, odV (oaR s.2.1 v p x))) :: R))) → post none w) : zC g i_Ho_renew [.ref (A 0), .ref b, .int v, .int p] ws post := by
  refine zC.intro (by decide +kernel) rfl (Nat.le_of_ble_eq_true rfl) fun x0 hq => ?_
  refine zo_aload_n (i := i_Ho_renew) (pc := 0) d_Ho_renew_0 rfl rfl ?_
  refine zo_aload_n (i := i_Ho_renew) (pc := 1) d_Ho_renew_1 rfl rfl ?_
  refine zo_iload_n (i := i_Ho_renew) (pc := 2) d_Ho_renew_2 rfl ?_
  refine zc_V1 (i := i_Ho_renew) (pc := 3) 9 rfl m_Ho_endOf (ztb_of k_588 rfl) (ztb_of k_590 rfl) s_Ho_endOf d_Ho_renew_3 (Nat.le_of_ble_eq_true rfl) (Nat.le_of_ble_eq_true rfl) (Nat.le_of_ble_eq_true rfl) (Nat.le_of_ble_eq_true rfl) (hs.get (t := 0) rfl) (c_Ho_endOf (hs.get (t := 0) rfl) ?_)
  refine zh_putN (i := i_Ho_renew) (pc := 6) 5 4 rfl zok_Oa (Nat.le_of_ble_eq_true rfl) (ztb_of k_179 rfl) rfl d_Ho_renew_6 (fun _ _ _ h => h) (t_Oa_ok 4 (Nat.le_of_ble_eq_true rfl)) rfl rfl hs 5 rfl (Nat.le_of_ble_eq_true rfl) fun ws hs => ?_
  refine zo_aload_n (i := i_Ho_renew) (pc := 9) d_Ho_renew_9 rfl rfl ?_
  refine zo_getN (i := i_Ho_renew) (pc := 10) 5 2 rfl zok_Oa (Nat.le_of_ble_eq_true rfl) (ztb_of k_174 rfl) d_Ho_renew_10 (fun _ _ _ h => h) (hs.get (t := 5) rfl) rfl ?_
  refine zo_iconst (i := i_Ho_renew) (pc := 13) (v := 1) d_Ho_renew_13 (by decide) ?_
  refine zo_icmp_eq (i := i_Ho_renew) (pc := 14) (tgt := 30) d_Ho_renew_14 (by decide) (fun h14 => ?_) (fun h14 => ?_)
  · refine zo_aload_n (i := i_Ho_renew) (pc := 30) d_Ho_renew_30 rfl rfl ?_
    refine zo_getN (i := i_Ho_renew) (pc := 31) 5 3 rfl zok_Oa (Nat.le_of_ble_eq_true rfl) (ztb_of k_177 rfl) d_Ho_renew_31 (fun _ _ _ h => h) (hs.get (t := 5) rfl) rfl ?_
    refine zo_aload_n (i := i_Ho_renew) (pc := 34) d_Ho_renew_34 rfl rfl ?_
    refine zo_get (i := i_Ho_renew) (pc := 35) 9 8 rfl zok_Ho (Nat.le_of_ble_eq_true rfl) (ztb_of k_270 rfl) d_Ho_renew_35 (fun _ _ _ h => h) (hs.get (t := 0) rfl) rfl ?_
    refine zo_isub (i := i_Ho_renew) (pc := 38) d_Ho_renew_38 ?_
    refine zo_istore (i := i_Ho_renew) (pc := 39) d_Ho_renew_39 (Nat.le_of_ble_eq_true rfl) ?_
    refine zo_iload_n (i := i_Ho_renew) (pc := 41) d_Ho_renew_41 rfl ?_
    refine zo_bipush (i := i_Ho_renew) (pc := 42) (v := 20) d_Ho_renew_42 (by decide) ?_
    refine zo_icmp_gt (i := i_Ho_renew) (pc := 44) (tgt := 53) d_Ho_renew_44 (by decide) (fun h44 => ?_) (fun h44 => ?_)
    · refine zo_aload_n (i := i_Ho_renew) (pc := 53) d_Ho_renew_53 rfl rfl ?_
      refine zo_aload_n (i := i_Ho_renew) (pc := 54) d_Ho_renew_54 rfl rfl ?_
      refine zo_iload_n (i := i_Ho_renew) (pc := 55) d_Ho_renew_55 rfl ?_
      refine zc_V1 (i := i_Ho_renew) (pc := 56) 9 rfl m_Ho_endOf (ztb_of k_588 rfl) (ztb_of k_590 rfl) s_Ho_endOf d_Ho_renew_56 (Nat.le_of_ble_eq_true rfl) (Nat.le_of_ble_eq_true rfl) (Nat.le_of_ble_eq_true rfl) (Nat.le_of_ble_eq_true rfl) (hs.get (t := 0) rfl) (c_Ho_endOf (hs.get (t := 0) rfl) ?_)
      refine zh_putN (i := i_Ho_renew) (pc := 59) 5 3 rfl zok_Oa (Nat.le_of_ble_eq_true rfl) (ztb_of k_177 rfl) rfl d_Ho_renew_59 (fun _ _ _ h => h) (t_Oa_ok 3 (Nat.le_of_ble_eq_true rfl)) rfl rfl hs 5 rfl (Nat.le_of_ble_eq_true rfl) fun ws hs => ?_
      refine zo_goto (i := i_Ho_renew) (pc := 62) (tgt := 82) d_Ho_renew_62 (by decide) ?_
      refine zo_return (i := i_Ho_renew) (pc := 82) hq d_Ho_renew_82 rfl (Nat.le_of_ble_eq_true rfl) (Nat.le_of_ble_eq_true rfl) ?_
      refine k ws ?_
      unfold oaR
      rw [if_pos h14, if_pos (.inl h44)]
      exact hs
    · refine zo_iload_n (i := i_Ho_renew) (pc := 47) d_Ho_renew_47 rfl ?_
      refine zo_iload (i := i_Ho_renew) (pc := 48) d_Ho_renew_48 rfl ?_
      refine zo_icmp_le (i := i_Ho_renew) (pc := 50) (tgt := 65) d_Ho_renew_50 (by decide) (fun h50 => ?_) (fun h50 => ?_)
      · refine zo_iload (i := i_Ho_renew) (pc := 65) d_Ho_renew_65 rfl ?_
        refine zo_bipush (i := i_Ho_renew) (pc := 67) (v := 20) d_Ho_renew_67 (by decide) ?_
        refine zo_icmp_le (i := i_Ho_renew) (pc := 69) (tgt := 82) d_Ho_renew_69 (by decide) (fun h69 => ?_) (fun h69 => ?_)
        · refine zo_return (i := i_Ho_renew) (pc := 82) hq d_Ho_renew_82 rfl (Nat.le_of_ble_eq_true rfl) (Nat.le_of_ble_eq_true rfl) ?_
          refine k ws ?_
          unfold oaR
          rw [if_pos h14, if_neg (fun q => q.elim h44 (fun q => absurd h50 (Int32.not_le.mpr q))), if_neg (fun q => absurd h69 (Int32.not_le.mpr q))]
          exact hs
        · refine zo_aload_n (i := i_Ho_renew) (pc := 72) d_Ho_renew_72 rfl rfl ?_
          refine zo_aload_n (i := i_Ho_renew) (pc := 73) d_Ho_renew_73 rfl rfl ?_
          refine zo_bipush (i := i_Ho_renew) (pc := 74) (v := 20) d_Ho_renew_74 (by decide) ?_
          refine zc_V1 (i := i_Ho_renew) (pc := 76) 9 rfl m_Ho_endOf (ztb_of k_588 rfl) (ztb_of k_590 rfl) s_Ho_endOf d_Ho_renew_76 (Nat.le_of_ble_eq_true rfl) (Nat.le_of_ble_eq_true rfl) (Nat.le_of_ble_eq_true rfl) (Nat.le_of_ble_eq_true rfl) (hs.get (t := 0) rfl) (c_Ho_endOf (hs.get (t := 0) rfl) ?_)
          refine zh_putN (i := i_Ho_renew) (pc := 79) 5 3 rfl zok_Oa (Nat.le_of_ble_eq_true rfl) (ztb_of k_177 rfl) rfl d_Ho_renew_79 (fun _ _ _ h => h) (t_Oa_ok 3 (Nat.le_of_ble_eq_true rfl)) rfl rfl hs 5 rfl (Nat.le_of_ble_eq_true rfl) fun ws hs => ?_
          refine zo_return (i := i_Ho_renew) (pc := 82) hq d_Ho_renew_82 rfl (Nat.le_of_ble_eq_true rfl) (Nat.le_of_ble_eq_true rfl) ?_
          refine k ws ?_
          unfold oaR
          rw [if_pos h14, if_neg (fun q => q.elim h44 (fun q => absurd h50 (Int32.not_le.mpr q))), if_pos (Int32.not_le.mp h69)]
          exact hs
      · refine zo_aload_n (i := i_Ho_renew) (pc := 53) d_Ho_renew_53 rfl rfl ?_
        refine zo_aload_n (i := i_Ho_renew) (pc := 54) d_Ho_renew_54 rfl rfl ?_
        refine zo_iload_n (i := i_Ho_renew) (pc := 55) d_Ho_renew_55 rfl ?_
        refine zc_V1 (i := i_Ho_renew) (pc := 56) 9 rfl m_Ho_endOf (ztb_of k_588 rfl) (ztb_of k_590 rfl) s_Ho_endOf d_Ho_renew_56 (Nat.le_of_ble_eq_true rfl) (Nat.le_of_ble_eq_true rfl) (Nat.le_of_ble_eq_true rfl) (Nat.le_of_ble_eq_true rfl) (hs.get (t := 0) rfl) (c_Ho_endOf (hs.get (t := 0) rfl) ?_)
        refine zh_putN (i := i_Ho_renew) (pc := 59) 5 3 rfl zok_Oa (Nat.le_of_ble_eq_true rfl) (ztb_of k_177 rfl) rfl d_Ho_renew_59 (fun _ _ _ h => h) (t_Oa_ok 3 (Nat.le_of_ble_eq_true rfl)) rfl rfl hs 5 rfl (Nat.le_of_ble_eq_true rfl) fun ws hs => ?_
        refine zo_goto (i := i_Ho_renew) (pc := 62) (tgt := 82) d_Ho_renew_62 (by decide) ?_
        refine zo_return (i := i_Ho_renew) (pc := 82) hq d_Ho_renew_82 rfl (Nat.le_of_ble_eq_true rfl) (Nat.le_of_ble_eq_true rfl) ?_
        refine k ws ?_
        unfold oaR
        rw [if_pos h14, if_pos (.inr (Int32.not_le.mp h50))]
        exact hs
  · refine zo_aload_n (i := i_Ho_renew) (pc := 17) d_Ho_renew_17 rfl rfl ?_
    refine zo_iload_n (i := i_Ho_renew) (pc := 18) d_Ho_renew_18 rfl ?_
    refine zo_if_ne (i := i_Ho_renew) (pc := 19) (tgt := 26) d_Ho_renew_19 (by decide) (fun h19 => ?_) (fun h19 => ?_)
    · refine zo_iconst (i := i_Ho_renew) (pc := 26) (v := 2) d_Ho_renew_26 (by decide) ?_
      refine zh_putN (i := i_Ho_renew) (pc := 27) 5 2 rfl zok_Oa (Nat.le_of_ble_eq_true rfl) (ztb_of k_174 rfl) rfl d_Ho_renew_27 (fun _ _ _ h => h) (t_Oa_ok 2 (Nat.le_of_ble_eq_true rfl)) rfl rfl hs 5 rfl (Nat.le_of_ble_eq_true rfl) fun ws hs => ?_
      refine zo_aload_n (i := i_Ho_renew) (pc := 30) d_Ho_renew_30 rfl rfl ?_
      refine zo_getN (i := i_Ho_renew) (pc := 31) 5 3 rfl zok_Oa (Nat.le_of_ble_eq_true rfl) (ztb_of k_177 rfl) d_Ho_renew_31 (fun _ _ _ h => h) (hs.get (t := 5) rfl) rfl ?_
      refine zo_aload_n (i := i_Ho_renew) (pc := 34) d_Ho_renew_34 rfl rfl ?_
      refine zo_get (i := i_Ho_renew) (pc := 35) 9 8 rfl zok_Ho (Nat.le_of_ble_eq_true rfl) (ztb_of k_270 rfl) d_Ho_renew_35 (fun _ _ _ h => h) (hs.get (t := 0) rfl) rfl ?_
      refine zo_isub (i := i_Ho_renew) (pc := 38) d_Ho_renew_38 ?_
      refine zo_istore (i := i_Ho_renew) (pc := 39) d_Ho_renew_39 (Nat.le_of_ble_eq_true rfl) ?_
      refine zo_iload_n (i := i_Ho_renew) (pc := 41) d_Ho_renew_41 rfl ?_
      refine zo_bipush (i := i_Ho_renew) (pc := 42) (v := 20) d_Ho_renew_42 (by decide) ?_
      refine zo_icmp_gt (i := i_Ho_renew) (pc := 44) (tgt := 53) d_Ho_renew_44 (by decide) (fun h44 => ?_) (fun h44 => ?_)
      · refine zo_aload_n (i := i_Ho_renew) (pc := 53) d_Ho_renew_53 rfl rfl ?_
        refine zo_aload_n (i := i_Ho_renew) (pc := 54) d_Ho_renew_54 rfl rfl ?_
        refine zo_iload_n (i := i_Ho_renew) (pc := 55) d_Ho_renew_55 rfl ?_
        refine zc_V1 (i := i_Ho_renew) (pc := 56) 9 rfl m_Ho_endOf (ztb_of k_588 rfl) (ztb_of k_590 rfl) s_Ho_endOf d_Ho_renew_56 (Nat.le_of_ble_eq_true rfl) (Nat.le_of_ble_eq_true rfl) (Nat.le_of_ble_eq_true rfl) (Nat.le_of_ble_eq_true rfl) (hs.get (t := 0) rfl) (c_Ho_endOf (hs.get (t := 0) rfl) ?_)
        refine zh_putN (i := i_Ho_renew) (pc := 59) 5 3 rfl zok_Oa (Nat.le_of_ble_eq_true rfl) (ztb_of k_177 rfl) rfl d_Ho_renew_59 (fun _ _ _ h => h) (t_Oa_ok 3 (Nat.le_of_ble_eq_true rfl)) rfl rfl hs 5 rfl (Nat.le_of_ble_eq_true rfl) fun ws hs => ?_
        refine zo_goto (i := i_Ho_renew) (pc := 62) (tgt := 82) d_Ho_renew_62 (by decide) ?_
        refine zo_return (i := i_Ho_renew) (pc := 82) hq d_Ho_renew_82 rfl (Nat.le_of_ble_eq_true rfl) (Nat.le_of_ble_eq_true rfl) ?_
        refine k ws ?_
        unfold oaR
        rw [if_neg h14, if_neg h19, if_pos (.inl h44)]
        exact hs
      · refine zo_iload_n (i := i_Ho_renew) (pc := 47) d_Ho_renew_47 rfl ?_
        refine zo_iload (i := i_Ho_renew) (pc := 48) d_Ho_renew_48 rfl ?_
        refine zo_icmp_le (i := i_Ho_renew) (pc := 50) (tgt := 65) d_Ho_renew_50 (by decide) (fun h50 => ?_) (fun h50 => ?_)
        · refine zo_iload (i := i_Ho_renew) (pc := 65) d_Ho_renew_65 rfl ?_
          refine zo_bipush (i := i_Ho_renew) (pc := 67) (v := 20) d_Ho_renew_67 (by decide) ?_
          refine zo_icmp_le (i := i_Ho_renew) (pc := 69) (tgt := 82) d_Ho_renew_69 (by decide) (fun h69 => ?_) (fun h69 => ?_)
          · refine zo_return (i := i_Ho_renew) (pc := 82) hq d_Ho_renew_82 rfl (Nat.le_of_ble_eq_true rfl) (Nat.le_of_ble_eq_true rfl) ?_
            refine k ws ?_
            unfold oaR
            rw [if_neg h14, if_neg h19, if_neg (fun q => q.elim h44 (fun q => absurd h50 (Int32.not_le.mpr q))), if_neg (fun q => absurd h69 (Int32.not_le.mpr q))]
            exact hs
          · refine zo_aload_n (i := i_Ho_renew) (pc := 72) d_Ho_renew_72 rfl rfl ?_
            refine zo_aload_n (i := i_Ho_renew) (pc := 73) d_Ho_renew_73 rfl rfl ?_
            refine zo_bipush (i := i_Ho_renew) (pc := 74) (v := 20) d_Ho_renew_74 (by decide) ?_
            refine zc_V1 (i := i_Ho_renew) (pc := 76) 9 rfl m_Ho_endOf (ztb_of k_588 rfl) (ztb_of k_590 rfl) s_Ho_endOf d_Ho_renew_76 (Nat.le_of_ble_eq_true rfl) (Nat.le_of_ble_eq_true rfl) (Nat.le_of_ble_eq_true rfl) (Nat.le_of_ble_eq_true rfl) (hs.get (t := 0) rfl) (c_Ho_endOf (hs.get (t := 0) rfl) ?_)
            refine zh_putN (i := i_Ho_renew) (pc := 79) 5 3 rfl zok_Oa (Nat.le_of_ble_eq_true rfl) (ztb_of k_177 rfl) rfl d_Ho_renew_79 (fun _ _ _ h => h) (t_Oa_ok 3 (Nat.le_of_ble_eq_true rfl)) rfl rfl hs 5 rfl (Nat.le_of_ble_eq_true rfl) fun ws hs => ?_
            refine zo_return (i := i_Ho_renew) (pc := 82) hq d_Ho_renew_82 rfl (Nat.le_of_ble_eq_true rfl) (Nat.le_of_ble_eq_true rfl) ?_
            refine k ws ?_
            unfold oaR
            rw [if_neg h14, if_neg h19, if_neg (fun q => q.elim h44 (fun q => absurd h50 (Int32.not_le.mpr q))), if_pos (Int32.not_le.mp h69)]
            exact hs
        · refine zo_aload_n (i := i_Ho_renew) (pc := 53) d_Ho_renew_53 rfl rfl ?_
          refine zo_aload_n (i := i_Ho_renew) (pc := 54) d_Ho_renew_54 rfl rfl ?_
          refine zo_iload_n (i := i_Ho_renew) (pc := 55) d_Ho_renew_55 rfl ?_
          refine zc_V1 (i := i_Ho_renew) (pc := 56) 9 rfl m_Ho_endOf (ztb_of k_588 rfl) (ztb_of k_590 rfl) s_Ho_endOf d_Ho_renew_56 (Nat.le_of_ble_eq_true rfl) (Nat.le_of_ble_eq_true rfl) (Nat.le_of_ble_eq_true rfl) (Nat.le_of_ble_eq_true rfl) (hs.get (t := 0) rfl) (c_Ho_endOf (hs.get (t := 0) rfl) ?_)
          refine zh_putN (i := i_Ho_renew) (pc := 59) 5 3 rfl zok_Oa (Nat.le_of_ble_eq_true rfl) (ztb_of k_177 rfl) rfl d_Ho_renew_59 (fun _ _ _ h => h) (t_Oa_ok 3 (Nat.le_of_ble_eq_true rfl)) rfl rfl hs 5 rfl (Nat.le_of_ble_eq_true rfl) fun ws hs => ?_
          refine zo_goto (i := i_Ho_renew) (pc := 62) (tgt := 82) d_Ho_renew_62 (by decide) ?_
          refine zo_return (i := i_Ho_renew) (pc := 82) hq d_Ho_renew_82 rfl (Nat.le_of_ble_eq_true rfl) (Nat.le_of_ble_eq_true rfl) ?_
          refine k ws ?_
          unfold oaR
          rw [if_neg h14, if_neg h19, if_pos (.inr (Int32.not_le.mp h50))]
          exact hs
    · refine zo_iconst (i := i_Ho_renew) (pc := 22) (v := 3) d_Ho_renew_22 (by decide) ?_
      refine zo_goto (i := i_Ho_renew) (pc := 23) (tgt := 27) d_Ho_renew_23 (by decide) ?_
      refine zh_putN (i := i_Ho_renew) (pc := 27) 5 2 rfl zok_Oa (Nat.le_of_ble_eq_true rfl) (ztb_of k_174 rfl) rfl d_Ho_renew_27 (fun _ _ _ h => h) (t_Oa_ok 2 (Nat.le_of_ble_eq_true rfl)) rfl rfl hs 5 rfl (Nat.le_of_ble_eq_true rfl) fun ws hs => ?_
      refine zo_aload_n (i := i_Ho_renew) (pc := 30) d_Ho_renew_30 rfl rfl ?_
      refine zo_getN (i := i_Ho_renew) (pc := 31) 5 3 rfl zok_Oa (Nat.le_of_ble_eq_true rfl) (ztb_of k_177 rfl) d_Ho_renew_31 (fun _ _ _ h => h) (hs.get (t := 5) rfl) rfl ?_
      refine zo_aload_n (i := i_Ho_renew) (pc := 34) d_Ho_renew_34 rfl rfl ?_
      refine zo_get (i := i_Ho_renew) (pc := 35) 9 8 rfl zok_Ho (Nat.le_of_ble_eq_true rfl) (ztb_of k_270 rfl) d_Ho_renew_35 (fun _ _ _ h => h) (hs.get (t := 0) rfl) rfl ?_
      refine zo_isub (i := i_Ho_renew) (pc := 38) d_Ho_renew_38 ?_
      refine zo_istore (i := i_Ho_renew) (pc := 39) d_Ho_renew_39 (Nat.le_of_ble_eq_true rfl) ?_
      refine zo_iload_n (i := i_Ho_renew) (pc := 41) d_Ho_renew_41 rfl ?_
      refine zo_bipush (i := i_Ho_renew) (pc := 42) (v := 20) d_Ho_renew_42 (by decide) ?_
      refine zo_icmp_gt (i := i_Ho_renew) (pc := 44) (tgt := 53) d_Ho_renew_44 (by decide) (fun h44 => ?_) (fun h44 => ?_)
      · refine zo_aload_n (i := i_Ho_renew) (pc := 53) d_Ho_renew_53 rfl rfl ?_
        refine zo_aload_n (i := i_Ho_renew) (pc := 54) d_Ho_renew_54 rfl rfl ?_
        refine zo_iload_n (i := i_Ho_renew) (pc := 55) d_Ho_renew_55 rfl ?_
        refine zc_V1 (i := i_Ho_renew) (pc := 56) 9 rfl m_Ho_endOf (ztb_of k_588 rfl) (ztb_of k_590 rfl) s_Ho_endOf d_Ho_renew_56 (Nat.le_of_ble_eq_true rfl) (Nat.le_of_ble_eq_true rfl) (Nat.le_of_ble_eq_true rfl) (Nat.le_of_ble_eq_true rfl) (hs.get (t := 0) rfl) (c_Ho_endOf (hs.get (t := 0) rfl) ?_)
        refine zh_putN (i := i_Ho_renew) (pc := 59) 5 3 rfl zok_Oa (Nat.le_of_ble_eq_true rfl) (ztb_of k_177 rfl) rfl d_Ho_renew_59 (fun _ _ _ h => h) (t_Oa_ok 3 (Nat.le_of_ble_eq_true rfl)) rfl rfl hs 5 rfl (Nat.le_of_ble_eq_true rfl) fun ws hs => ?_
        refine zo_goto (i := i_Ho_renew) (pc := 62) (tgt := 82) d_Ho_renew_62 (by decide) ?_
        refine zo_return (i := i_Ho_renew) (pc := 82) hq d_Ho_renew_82 rfl (Nat.le_of_ble_eq_true rfl) (Nat.le_of_ble_eq_true rfl) ?_
        refine k ws ?_
        unfold oaR
        rw [if_neg h14, if_pos h19, if_pos (.inl h44)]
        exact hs
      · refine zo_iload_n (i := i_Ho_renew) (pc := 47) d_Ho_renew_47 rfl ?_
        refine zo_iload (i := i_Ho_renew) (pc := 48) d_Ho_renew_48 rfl ?_
        refine zo_icmp_le (i := i_Ho_renew) (pc := 50) (tgt := 65) d_Ho_renew_50 (by decide) (fun h50 => ?_) (fun h50 => ?_)
        · refine zo_iload (i := i_Ho_renew) (pc := 65) d_Ho_renew_65 rfl ?_
          refine zo_bipush (i := i_Ho_renew) (pc := 67) (v := 20) d_Ho_renew_67 (by decide) ?_
          refine zo_icmp_le (i := i_Ho_renew) (pc := 69) (tgt := 82) d_Ho_renew_69 (by decide) (fun h69 => ?_) (fun h69 => ?_)
          · refine zo_return (i := i_Ho_renew) (pc := 82) hq d_Ho_renew_82 rfl (Nat.le_of_ble_eq_true rfl) (Nat.le_of_ble_eq_true rfl) ?_
            refine k ws ?_
            unfold oaR
            rw [if_neg h14, if_pos h19, if_neg (fun q => q.elim h44 (fun q => absurd h50 (Int32.not_le.mpr q))), if_neg (fun q => absurd h69 (Int32.not_le.mpr q))]
            exact hs
          · refine zo_aload_n (i := i_Ho_renew) (pc := 72) d_Ho_renew_72 rfl rfl ?_
            refine zo_aload_n (i := i_Ho_renew) (pc := 73) d_Ho_renew_73 rfl rfl ?_
            refine zo_bipush (i := i_Ho_renew) (pc := 74) (v := 20) d_Ho_renew_74 (by decide) ?_
            refine zc_V1 (i := i_Ho_renew) (pc := 76) 9 rfl m_Ho_endOf (ztb_of k_588 rfl) (ztb_of k_590 rfl) s_Ho_endOf d_Ho_renew_76 (Nat.le_of_ble_eq_true rfl) (Nat.le_of_ble_eq_true rfl) (Nat.le_of_ble_eq_true rfl) (Nat.le_of_ble_eq_true rfl) (hs.get (t := 0) rfl) (c_Ho_endOf (hs.get (t := 0) rfl) ?_)
            refine zh_putN (i := i_Ho_renew) (pc := 79) 5 3 rfl zok_Oa (Nat.le_of_ble_eq_true rfl) (ztb_of k_177 rfl) rfl d_Ho_renew_79 (fun _ _ _ h => h) (t_Oa_ok 3 (Nat.le_of_ble_eq_true rfl)) rfl rfl hs 5 rfl (Nat.le_of_ble_eq_true rfl) fun ws hs => ?_
            refine zo_return (i := i_Ho_renew) (pc := 82) hq d_Ho_renew_82 rfl (Nat.le_of_ble_eq_true rfl) (Nat.le_of_ble_eq_true rfl) ?_
            refine k ws ?_
            unfold oaR
            rw [if_neg h14, if_pos h19, if_neg (fun q => q.elim h44 (fun q => absurd h50 (Int32.not_le.mpr q))), if_pos (Int32.not_le.mp h69)]
            exact hs
        · refine zo_aload_n (i := i_Ho_renew) (pc := 53) d_Ho_renew_53 rfl rfl ?_
          refine zo_aload_n (i := i_Ho_renew) (pc := 54) d_Ho_renew_54 rfl rfl ?_
          refine zo_iload_n (i := i_Ho_renew) (pc := 55) d_Ho_renew_55 rfl ?_
          refine zc_V1 (i := i_Ho_renew) (pc := 56) 9 rfl m_Ho_endOf (ztb_of k_588 rfl) (ztb_of k_590 rfl) s_Ho_endOf d_Ho_renew_56 (Nat.le_of_ble_eq_true rfl) (Nat.le_of_ble_eq_true rfl) (Nat.le_of_ble_eq_true rfl) (Nat.le_of_ble_eq_true rfl) (hs.get (t := 0) rfl) (c_Ho_endOf (hs.get (t := 0) rfl) ?_)
          refine zh_putN (i := i_Ho_renew) (pc := 59) 5 3 rfl zok_Oa (Nat.le_of_ble_eq_true rfl) (ztb_of k_177 rfl) rfl d_Ho_renew_59 (fun _ _ _ h => h) (t_Oa_ok 3 (Nat.le_of_ble_eq_true rfl)) rfl rfl hs 5 rfl (Nat.le_of_ble_eq_true rfl) fun ws hs => ?_
          refine zo_goto (i := i_Ho_renew) (pc := 62) (tgt := 82) d_Ho_renew_62 (by decide) ?_
          refine zo_return (i := i_Ho_renew) (pc := 82) hq d_Ho_renew_82 rfl (Nat.le_of_ble_eq_true rfl) (Nat.le_of_ble_eq_true rfl) ?_
          refine k ws ?_
          unfold oaR
          rw [if_neg h14, if_pos h19, if_pos (.inr (Int32.not_le.mp h50))]
          exact hs
