/-! The host: the rest of its public methods, where they do not refuse (walks by a program, gen29.py). -/
section ZHost10
def cntT (q : hT) (w : Int32) : Int32 := if w = 0 then q.1.2.1 else if w = 1 then nI q.2.2.1.length else if w = 2 then nI q.2.2.2.2.1.length else if w = 3 then nI q.2.2.2.2.2.1.length else if w = 4 then nI q.2.2.2.1.length else if w = 5 then nI q.2.2.2.2.2.2.1.length
  else if w = 6 then nI q.2.1.1 else if w = 7 then q.1.2.2.2.1 else if w = 8 then q.1.2.2.2.2.1 else if w = 9 then q.1.2.2.2.2.2.1 else if w = 10 then q.1.2.2.1 else zb q.1.2.2.2.2.2.2
theorem zsw_0_10 (k : Int32) : k = 0 ∨ k = 1 ∨ k = 2 ∨ k = 3 ∨ k = 4 ∨ k = 5 ∨ k = 6 ∨ k = 7 ∨ k = 8 ∨ k = 9 ∨ k = 10 ∨ (k.toInt < 0 ∨ 10 < k.toInt) := by
  have h : k.toInt = 0 ∨ k.toInt = 1 ∨ k.toInt = 2 ∨ k.toInt = 3 ∨ k.toInt = 4 ∨ k.toInt = 5 ∨ k.toInt = 6 ∨ k.toInt = 7 ∨ k.toInt = 8 ∨ k.toInt = 9 ∨ k.toInt = 10 ∨ (k.toInt < 0 ∨ 10 < k.toInt) := by omega
  have f : ∀ n : Int32, k.toInt = n.toInt → k = n := fun n h => Int32.toInt_inj.mp h
  rcases h with h | h | h | h | h | h | h | h | h | h | h | h
  · exact .inl (f 0 h)
  · exact .inr (.inl (f 1 h))
  · exact .inr (.inr (.inl (f 2 h)))
  · exact .inr (.inr (.inr (.inl (f 3 h))))
  · exact .inr (.inr (.inr (.inr (.inl (f 4 h)))))
  · exact .inr (.inr (.inr (.inr (.inr (.inl (f 5 h))))))
  · exact .inr (.inr (.inr (.inr (.inr (.inr (.inl (f 6 h)))))))
  · exact .inr (.inr (.inr (.inr (.inr (.inr (.inr (.inl (f 7 h))))))))
  · exact .inr (.inr (.inr (.inr (.inr (.inr (.inr (.inr (.inl (f 8 h)))))))))
  · exact .inr (.inr (.inr (.inr (.inr (.inr (.inr (.inr (.inr (.inl (f 9 h))))))))))
  · exact .inr (.inr (.inr (.inr (.inr (.inr (.inr (.inr (.inr (.inr (.inl (f 10 h)))))))))))
  · exact .inr (.inr (.inr (.inr (.inr (.inr (.inr (.inr (.inr (.inr (.inr h))))))))))
theorem zout10 {k : Int32} (h : k.toInt < 0 ∨ 10 < k.toInt) : ¬ k = 0 ∧ ¬ k = 1 ∧ ¬ k = 2 ∧ ¬ k = 3 ∧ ¬ k = 4 ∧ ¬ k = 5 ∧ ¬ k = 6 ∧ ¬ k = 7 ∧ ¬ k = 8 ∧ ¬ k = 9 ∧ ¬ k = 10 := by
  refine ⟨?_, ?_, ?_, ?_, ?_, ?_, ?_, ?_, ?_, ?_, ?_⟩ <;> (intro e; subst e; revert h; decide)
end ZHost10
theorem hH.this {g : zG} {A : Nat → Nat} {q : hT} {R ws : va_W} (h : hH g A q R ws) : zget ws (A 0) = some (.inr (9, hoF A q.1)) := by
  obtain ⟨ow, nb, ro, pf, pa, -, -, -, -, -, -, -, -, -, -, -, hs⟩ := h
  exact hs.get (t := 0) rfl
theorem c_Ho_prefix {g : zG} {ws : va_W} {post : Option Value → va_W → Prop} {A : Nat → Nat} {q : hT} {R : va_W} (h : hH g A q R ws) {p f v r : Int32} (ha : zwithin p 1 250 = true) (hn : zwithin f 0 3 = true) (hl : zwithin v 0 1000 = true) (hz : zwithin r 0 1000 = true) (hu : q.1.2.2.2.2.2.2 = false) (k : ∀ w, hH g A (prefixT q p f v r) R w → post none w) : zC g i_Ho_prefix [.ref (A 0), .int p, .int f, .int v, .int r] ws post := by
  refine zC.intro (by decide +kernel) rfl (Nat.le_of_ble_eq_true rfl) fun x0 hq => ?_
  have h0 := h
  obtain ⟨s, u, lo, ln, lr, lp, la, hd⟩ := q
  obtain ⟨ow, nb, ro, pf, pa, h1, h2, h3, h4, h5, rfl, rfl, rfl, rfl, rfl, h6, hs⟩ := h
  have hget := h0.this
  replace hs : zHas ws (hL g A s u ow nb ro pf pa hd R).flatten := hs
  have hu : s.2.2.2.2.2.2 = false := hu
  refine zo_iload_n (i := i_Ho_prefix) (pc := 0) d_Ho_prefix_0 rfl ?_
  refine zo_iconst (i := i_Ho_prefix) (pc := 1) (v := 1) d_Ho_prefix_1 (by decide) ?_
  refine zo_sipush (i := i_Ho_prefix) (pc := 2) (v := 250) d_Ho_prefix_2 (by decide) ?_
  refine zc_S3 (i := i_Ho_prefix) (pc := 5) m_Ho_isWithin (ztb_of k_359 rfl) (ztb_of k_360 rfl) d_Ho_prefix_5 (Nat.le_of_ble_eq_true rfl) (Nat.le_of_ble_eq_true rfl) (Nat.le_of_ble_eq_true rfl) (Nat.le_of_ble_eq_true rfl) (c_Ho_isWithin ?_)
  refine zo_if_eq (i := i_Ho_prefix) (pc := 8) (tgt := 39) d_Ho_prefix_8 (by decide) (fun h8 => False.elim (by first | exact absurd h8 ((zb_t ha)) | exact absurd ((zb_t ha)) h8)) (fun h8 => ?_)
  refine zo_iload_n (i := i_Ho_prefix) (pc := 11) d_Ho_prefix_11 rfl ?_
  refine zo_iconst (i := i_Ho_prefix) (pc := 12) (v := 0) d_Ho_prefix_12 (by decide) ?_
  refine zo_iconst (i := i_Ho_prefix) (pc := 13) (v := 3) d_Ho_prefix_13 (by decide) ?_
  refine zc_S3 (i := i_Ho_prefix) (pc := 14) m_Ho_isWithin (ztb_of k_359 rfl) (ztb_of k_360 rfl) d_Ho_prefix_14 (Nat.le_of_ble_eq_true rfl) (Nat.le_of_ble_eq_true rfl) (Nat.le_of_ble_eq_true rfl) (Nat.le_of_ble_eq_true rfl) (c_Ho_isWithin ?_)
  refine zo_if_eq (i := i_Ho_prefix) (pc := 17) (tgt := 39) d_Ho_prefix_17 (by decide) (fun h17 => False.elim (by first | exact absurd h17 ((zb_t hn)) | exact absurd ((zb_t hn)) h17)) (fun h17 => ?_)
  refine zo_iload_n (i := i_Ho_prefix) (pc := 20) d_Ho_prefix_20 rfl ?_
  refine zc_S1 (i := i_Ho_prefix) (pc := 21) m_Ho_isLife (ztb_of k_512 rfl) (ztb_of k_513 rfl) d_Ho_prefix_21 (Nat.le_of_ble_eq_true rfl) (Nat.le_of_ble_eq_true rfl) (Nat.le_of_ble_eq_true rfl) (Nat.le_of_ble_eq_true rfl) (c_Ho_isLife ?_)
  refine zo_if_eq (i := i_Ho_prefix) (pc := 24) (tgt := 39) d_Ho_prefix_24 (by decide) (fun h24 => False.elim (by first | exact absurd h24 ((zb_t hl)) | exact absurd ((zb_t hl)) h24)) (fun h24 => ?_)
  refine zo_iload (i := i_Ho_prefix) (pc := 27) d_Ho_prefix_27 rfl ?_
  refine zc_S1 (i := i_Ho_prefix) (pc := 29) m_Ho_isLife (ztb_of k_512 rfl) (ztb_of k_513 rfl) d_Ho_prefix_29 (Nat.le_of_ble_eq_true rfl) (Nat.le_of_ble_eq_true rfl) (Nat.le_of_ble_eq_true rfl) (Nat.le_of_ble_eq_true rfl) (c_Ho_isLife ?_)
  refine zo_if_eq (i := i_Ho_prefix) (pc := 32) (tgt := 39) d_Ho_prefix_32 (by decide) (fun h32 => False.elim (by first | exact absurd h32 ((zb_t hz)) | exact absurd ((zb_t hz)) h32)) (fun h32 => ?_)
  refine zo_iconst (i := i_Ho_prefix) (pc := 35) (v := 1) d_Ho_prefix_35 (by decide) ?_
  refine zo_goto (i := i_Ho_prefix) (pc := 36) (tgt := 40) d_Ho_prefix_36 (by decide) ?_
  refine zc_S1 (i := i_Ho_prefix) (pc := 40) m_Ho_requireArguments (ztb_of k_362 rfl) (ztb_of k_363 rfl) d_Ho_prefix_40 (Nat.le_of_ble_eq_true rfl) (Nat.le_of_ble_eq_true rfl) (Nat.le_of_ble_eq_true rfl) (Nat.le_of_ble_eq_true rfl) (c_Ho_requireArguments (by decide) ?_)
  refine zo_aload_n (i := i_Ho_prefix) (pc := 43) d_Ho_prefix_43 rfl rfl ?_
  refine zc_V0 (i := i_Ho_prefix) (pc := 44) 9 rfl m_Ho_requireUp (ztb_of k_515 rfl) (ztb_of k_517 rfl) s_Ho_requireUp d_Ho_prefix_44 (Nat.le_of_ble_eq_true rfl) (Nat.le_of_ble_eq_true rfl) (Nat.le_of_ble_eq_true rfl) (Nat.le_of_ble_eq_true rfl) (hs.get (t := 0) rfl) (c_Ho_requireUp (A := A) (s := s) (hs.get (t := 0) rfl) hu ?_)
  refine zo_iload_n (i := i_Ho_prefix) (pc := 47) d_Ho_prefix_47 rfl ?_
  refine zo_iconst (i := i_Ho_prefix) (pc := 48) (v := 1) d_Ho_prefix_48 (by decide) ?_
  refine zo_icmp_ne (i := i_Ho_prefix) (pc := 49) (tgt := 53) d_Ho_prefix_49 (by decide) (fun h49 => ?_) (fun h49 => ?_)
  · refine zo_iload_n (i := i_Ho_prefix) (pc := 53) d_Ho_prefix_53 rfl ?_
    refine zo_iconst (i := i_Ho_prefix) (pc := 54) (v := 1) d_Ho_prefix_54 (by decide) ?_
    refine zo_iand (i := i_Ho_prefix) (pc := 55) d_Ho_prefix_55 ?_
    refine zo_if_eq (i := i_Ho_prefix) (pc := 56) (tgt := 65) d_Ho_prefix_56 (by decide) (fun h56 => ?_) (fun h56 => ?_)
    · refine zo_iload_n (i := i_Ho_prefix) (pc := 65) d_Ho_prefix_65 rfl ?_
      refine zo_iconst (i := i_Ho_prefix) (pc := 66) (v := 2) d_Ho_prefix_66 (by decide) ?_
      refine zo_iand (i := i_Ho_prefix) (pc := 67) d_Ho_prefix_67 ?_
      refine zo_if_eq (i := i_Ho_prefix) (pc := 68) (tgt := 85) d_Ho_prefix_68 (by decide) (fun h68 => ?_) (fun h68 => ?_)
      · refine zo_return (i := i_Ho_prefix) (pc := 85) hq d_Ho_prefix_85 rfl (Nat.le_of_ble_eq_true rfl) (Nat.le_of_ble_eq_true rfl) ?_
        rw [prefixT, if_neg h49] at k
        simp only [h56, if_true, if_false] at k
        rw [if_pos (.inl h68)] at k
        exact k ws h0
      · refine zo_iload (i := i_Ho_prefix) (pc := 71) d_Ho_prefix_71 rfl ?_
        refine zo_iload_n (i := i_Ho_prefix) (pc := 73) d_Ho_prefix_73 rfl ?_
        refine zo_icmp_gt (i := i_Ho_prefix) (pc := 74) (tgt := 85) d_Ho_prefix_74 (by decide) (fun h74 => ?_) (fun h74 => ?_)
        · refine zo_return (i := i_Ho_prefix) (pc := 85) hq d_Ho_prefix_85 rfl (Nat.le_of_ble_eq_true rfl) (Nat.le_of_ble_eq_true rfl) ?_
          rw [prefixT, if_neg h49] at k
          simp only [h56, if_true, if_false] at k
          rw [if_pos (.inr h74)] at k
          exact k ws h0
        · 
          refine zo_aload_n (i := i_Ho_prefix) (pc := 77) d_Ho_prefix_77 rfl rfl ?_
          refine zo_iload_n (i := i_Ho_prefix) (pc := 78) d_Ho_prefix_78 rfl ?_
          refine zo_iload_n (i := i_Ho_prefix) (pc := 79) d_Ho_prefix_79 rfl ?_
          refine zo_iload (i := i_Ho_prefix) (pc := 80) d_Ho_prefix_80 rfl ?_
          refine zc_V3 (i := i_Ho_prefix) (pc := 82) 9 rfl m_Ho_hearForm (ztb_of k_633 rfl) (ztb_of k_635 rfl) s_Ho_hearForm d_Ho_prefix_82 (Nat.le_of_ble_eq_true rfl) (Nat.le_of_ble_eq_true rfl) (Nat.le_of_ble_eq_true rfl) (Nat.le_of_ble_eq_true rfl) hget (c_Ho_hearForm h0 fun ws hG => ?_)
          refine zo_return (i := i_Ho_prefix) (pc := 85) hq d_Ho_prefix_85 rfl (Nat.le_of_ble_eq_true rfl) (Nat.le_of_ble_eq_true rfl) ?_
          rw [prefixT, if_neg h49] at k
          simp only [h56, if_true, if_false] at k
          rw [if_neg (fun q => q.elim h68 h74)] at k
          exact k ws hG
    · refine zo_aload_n (i := i_Ho_prefix) (pc := 59) d_Ho_prefix_59 rfl rfl ?_
      refine zo_iload_n (i := i_Ho_prefix) (pc := 60) d_Ho_prefix_60 rfl ?_
      refine zo_iload_n (i := i_Ho_prefix) (pc := 61) d_Ho_prefix_61 rfl ?_
      refine zc_V2 (i := i_Ho_prefix) (pc := 62) 9 rfl m_Ho_hearOnLink (ztb_of k_629 rfl) (ztb_of k_631 rfl) s_Ho_hearOnLink d_Ho_prefix_62 (Nat.le_of_ble_eq_true rfl) (Nat.le_of_ble_eq_true rfl) (Nat.le_of_ble_eq_true rfl) (Nat.le_of_ble_eq_true rfl) (hs.get (t := 0) rfl) (c_Ho_hearOnLink h0 fun ws hF => ?_)
      refine zo_iload_n (i := i_Ho_prefix) (pc := 65) d_Ho_prefix_65 rfl ?_
      refine zo_iconst (i := i_Ho_prefix) (pc := 66) (v := 2) d_Ho_prefix_66 (by decide) ?_
      refine zo_iand (i := i_Ho_prefix) (pc := 67) d_Ho_prefix_67 ?_
      refine zo_if_eq (i := i_Ho_prefix) (pc := 68) (tgt := 85) d_Ho_prefix_68 (by decide) (fun h68 => ?_) (fun h68 => ?_)
      · refine zo_return (i := i_Ho_prefix) (pc := 85) hq d_Ho_prefix_85 rfl (Nat.le_of_ble_eq_true rfl) (Nat.le_of_ble_eq_true rfl) ?_
        rw [prefixT, if_neg h49] at k
        simp only [h56, if_true, if_false] at k
        rw [if_pos (.inl h68)] at k
        exact k ws hF
      · refine zo_iload (i := i_Ho_prefix) (pc := 71) d_Ho_prefix_71 rfl ?_
        refine zo_iload_n (i := i_Ho_prefix) (pc := 73) d_Ho_prefix_73 rfl ?_
        refine zo_icmp_gt (i := i_Ho_prefix) (pc := 74) (tgt := 85) d_Ho_prefix_74 (by decide) (fun h74 => ?_) (fun h74 => ?_)
        · refine zo_return (i := i_Ho_prefix) (pc := 85) hq d_Ho_prefix_85 rfl (Nat.le_of_ble_eq_true rfl) (Nat.le_of_ble_eq_true rfl) ?_
          rw [prefixT, if_neg h49] at k
          simp only [h56, if_true, if_false] at k
          rw [if_pos (.inr h74)] at k
          exact k ws hF
        · have hget := hF.this
          refine zo_aload_n (i := i_Ho_prefix) (pc := 77) d_Ho_prefix_77 rfl rfl ?_
          refine zo_iload_n (i := i_Ho_prefix) (pc := 78) d_Ho_prefix_78 rfl ?_
          refine zo_iload_n (i := i_Ho_prefix) (pc := 79) d_Ho_prefix_79 rfl ?_
          refine zo_iload (i := i_Ho_prefix) (pc := 80) d_Ho_prefix_80 rfl ?_
          refine zc_V3 (i := i_Ho_prefix) (pc := 82) 9 rfl m_Ho_hearForm (ztb_of k_633 rfl) (ztb_of k_635 rfl) s_Ho_hearForm d_Ho_prefix_82 (Nat.le_of_ble_eq_true rfl) (Nat.le_of_ble_eq_true rfl) (Nat.le_of_ble_eq_true rfl) (Nat.le_of_ble_eq_true rfl) hget (c_Ho_hearForm hF fun ws hG => ?_)
          refine zo_return (i := i_Ho_prefix) (pc := 85) hq d_Ho_prefix_85 rfl (Nat.le_of_ble_eq_true rfl) (Nat.le_of_ble_eq_true rfl) ?_
          rw [prefixT, if_neg h49] at k
          simp only [h56, if_true, if_false] at k
          rw [if_neg (fun q => q.elim h68 h74)] at k
          exact k ws hG
  · refine zo_return (i := i_Ho_prefix) (pc := 52) hq d_Ho_prefix_52 rfl (Nat.le_of_ble_eq_true rfl) (Nat.le_of_ble_eq_true rfl) ?_
    rw [prefixT, if_pos h49] at k
    exact k ws h0
theorem c_Ho_smaller {g : zG} {ws : va_W} {post : Option Value → va_W → Prop} {A : Nat → Nat} {q : hT} {R : va_W} (h : hH g A q R ws) {t n : Int32} (ha : zaddr t = true) (hn : zwithin n 0 40 = true) (hu : q.1.2.2.2.2.2.2 = false) (k : ∀ w, hH g A (smallT q t n) R w → post none w) : zC g i_Ho_smaller [.ref (A 0), .int t, .int n] ws post := by
  refine zC.intro (by decide +kernel) rfl (Nat.le_of_ble_eq_true rfl) fun x0 hq => ?_
  have h0 := h
  obtain ⟨s, u, lo, ln, lr, lp, la, hd⟩ := q
  obtain ⟨ow, nb, ro, pf, pa, h1, h2, h3, h4, h5, rfl, rfl, rfl, rfl, rfl, h6, hs⟩ := h
  replace hs : zHas ws (hL g A s u ow nb ro pf pa hd R).flatten := hs
  have hu : s.2.2.2.2.2.2 = false := hu
  refine zo_iload_n (i := i_Ho_smaller) (pc := 0) d_Ho_smaller_0 rfl ?_
  refine zc_S1 (i := i_Ho_smaller) (pc := 1) m_Ho_isAddress (ztb_of k_652 rfl) (ztb_of k_653 rfl) d_Ho_smaller_1 (Nat.le_of_ble_eq_true rfl) (Nat.le_of_ble_eq_true rfl) (Nat.le_of_ble_eq_true rfl) (Nat.le_of_ble_eq_true rfl) (c_Ho_isAddress ?_)
  refine zo_if_eq (i := i_Ho_smaller) (pc := 4) (tgt := 21) d_Ho_smaller_4 (by decide) (fun v4 => False.elim (by first | exact absurd v4 ((zb_t ha)) | exact absurd ((zb_t ha)) v4)) (fun v4 => ?_)
  refine zo_iload_n (i := i_Ho_smaller) (pc := 7) d_Ho_smaller_7 rfl ?_
  refine zo_iconst (i := i_Ho_smaller) (pc := 8) (v := 0) d_Ho_smaller_8 (by decide) ?_
  refine zo_bipush (i := i_Ho_smaller) (pc := 9) (v := 40) d_Ho_smaller_9 (by decide) ?_
  refine zc_S3 (i := i_Ho_smaller) (pc := 11) m_Ho_isWithin (ztb_of k_359 rfl) (ztb_of k_360 rfl) d_Ho_smaller_11 (Nat.le_of_ble_eq_true rfl) (Nat.le_of_ble_eq_true rfl) (Nat.le_of_ble_eq_true rfl) (Nat.le_of_ble_eq_true rfl) (c_Ho_isWithin ?_)
  refine zo_if_eq (i := i_Ho_smaller) (pc := 14) (tgt := 21) d_Ho_smaller_14 (by decide) (fun v14 => False.elim (by first | exact absurd v14 ((zb_t hn)) | exact absurd ((zb_t hn)) v14)) (fun v14 => ?_)
  refine zo_iconst (i := i_Ho_smaller) (pc := 17) (v := 1) d_Ho_smaller_17 (by decide) ?_
  refine zo_goto (i := i_Ho_smaller) (pc := 18) (tgt := 22) d_Ho_smaller_18 (by decide) ?_
  refine zc_S1 (i := i_Ho_smaller) (pc := 22) m_Ho_requireArguments (ztb_of k_362 rfl) (ztb_of k_363 rfl) d_Ho_smaller_22 (Nat.le_of_ble_eq_true rfl) (Nat.le_of_ble_eq_true rfl) (Nat.le_of_ble_eq_true rfl) (Nat.le_of_ble_eq_true rfl) (c_Ho_requireArguments (by decide) ?_)
  refine zo_aload_n (i := i_Ho_smaller) (pc := 25) d_Ho_smaller_25 rfl rfl ?_
  refine zc_V0 (i := i_Ho_smaller) (pc := 26) 9 rfl m_Ho_requireUp (ztb_of k_515 rfl) (ztb_of k_517 rfl) s_Ho_requireUp d_Ho_smaller_26 (Nat.le_of_ble_eq_true rfl) (Nat.le_of_ble_eq_true rfl) (Nat.le_of_ble_eq_true rfl) (Nat.le_of_ble_eq_true rfl) (hs.get (t := 0) rfl) (c_Ho_requireUp (A := A) (s := s) (hs.get (t := 0) rfl) hu ?_)
  refine zo_iload_n (i := i_Ho_smaller) (pc := 29) d_Ho_smaller_29 rfl ?_
  refine zo_bipush (i := i_Ho_smaller) (pc := 30) (v := 8) d_Ho_smaller_30 (by decide) ?_
  refine zo_icmp_lt (i := i_Ho_smaller) (pc := 32) (tgt := 60) d_Ho_smaller_32 (by decide) (fun h32 => ?_) (fun h32 => ?_)
  · refine zo_return (i := i_Ho_smaller) (pc := 60) hq d_Ho_smaller_60 rfl (Nat.le_of_ble_eq_true rfl) (Nat.le_of_ble_eq_true rfl) ?_
    unfold smallT at k
    rw [if_pos (.inl h32)] at k
    exact k ws h0
  · refine zo_aload_n (i := i_Ho_smaller) (pc := 35) d_Ho_smaller_35 rfl rfl ?_
    refine zo_iload_n (i := i_Ho_smaller) (pc := 36) d_Ho_smaller_36 rfl ?_
    refine zc_V1 (i := i_Ho_smaller) (pc := 37) 9 rfl m_Ho_sizeTo (ztb_of k_697 rfl) (ztb_of k_338 rfl) (ztb_of k_339 rfl) d_Ho_smaller_37 (Nat.le_of_ble_eq_true rfl) (Nat.le_of_ble_eq_true rfl) (Nat.le_of_ble_eq_true rfl) (Nat.le_of_ble_eq_true rfl) (hs.get (t := 0) rfl) (c_Ho_sizeTo h0 ?_)
    refine zo_iload_n (i := i_Ho_smaller) (pc := 40) d_Ho_smaller_40 rfl ?_
    refine zo_icmp_le (i := i_Ho_smaller) (pc := 41) (tgt := 60) d_Ho_smaller_41 (by decide) (fun h41 => ?_) (fun h41 => ?_)
    · refine zo_return (i := i_Ho_smaller) (pc := 60) hq d_Ho_smaller_60 rfl (Nat.le_of_ble_eq_true rfl) (Nat.le_of_ble_eq_true rfl) ?_
      unfold smallT at k
      rw [if_pos (.inr h41)] at k
      exact k ws h0
    · refine zo_aload_n (i := i_Ho_smaller) (pc := 44) d_Ho_smaller_44 rfl rfl ?_
      refine zo_get (i := i_Ho_smaller) (pc := 45) 9 6 rfl zok_Ho (Nat.le_of_ble_eq_true rfl) (ztb_of k_268 rfl) d_Ho_smaller_45 (fun _ _ _ h => h) (hs.get (t := 0) rfl) rfl ?_
      refine zo_iload_n (i := i_Ho_smaller) (pc := 48) d_Ho_smaller_48 rfl ?_
      refine zo_aload_n (i := i_Ho_smaller) (pc := 49) d_Ho_smaller_49 rfl rfl ?_
      refine zo_get (i := i_Ho_smaller) (pc := 50) 9 8 rfl zok_Ho (Nat.le_of_ble_eq_true rfl) (ztb_of k_270 rfl) d_Ho_smaller_50 (fun _ _ _ h => h) (hs.get (t := 0) rfl) rfl ?_
      refine zo_bipush (i := i_Ho_smaller) (pc := 53) (v := 30) d_Ho_smaller_53 (by decide) ?_
      refine zo_iadd (i := i_Ho_smaller) (pc := 55) d_Ho_smaller_55 ?_
      refine zo_iload_n (i := i_Ho_smaller) (pc := 56) d_Ho_smaller_56 rfl ?_
      refine zc_VN3 (i := i_Ho_smaller) (pc := 57) 8 rfl m_Tr_keep (ztb_of k_592 rfl) (ztb_of k_594 rfl) s_Tr_keep d_Ho_smaller_57 (Nat.le_of_ble_eq_true rfl) (Nat.le_of_ble_eq_true rfl) (Nat.le_of_ble_eq_true rfl) (Nat.le_of_ble_eq_true rfl) ((hs.pick 6 rfl).get (t := 0) rfl) (c_tr_keep (n := 4) (hs.pick 6 rfl) h5 rfl (by decide) (by decide) fun y' ws h5' e5 hs => ?_)
      replace hs : zHas ws (hL g A s u ow nb ro pf y' hd R).flatten := zHas.back (cs := hL g A s u ow nb ro pf pa hd R) 6 rfl hs
      refine zo_return (i := i_Ho_smaller) (pc := 60) hq d_Ho_smaller_60 rfl (Nat.le_of_ble_eq_true rfl) (Nat.le_of_ble_eq_true rfl) ?_
      unfold smallT at k
      rw [if_neg (fun q => q.elim h32 h41)] at k
      exact k ws ⟨_, _, _, _, _, h1, h2, h3, h4, h5', rfl, rfl, rfl, rfl, e5, h6, hs⟩
theorem c_Ho_send {g : zG} {ws : va_W} {post : Option Value → va_W → Prop} {A : Nat → Nat} {q : hT} {R : va_W} (h : hH g A q R ws) {t n : Int32} (ha : zaddr t = true) (hn : zwithin n 1 40 = true) (hu : q.1.2.2.2.2.2.2 = false) (k : ∀ w, hH g A (sendQ q t n).2 R w → post (some (.int (sendQ q t n).1)) w) : zC g i_Ho_send [.ref (A 0), .int t, .int n] ws post := by
  refine zC.intro (by decide +kernel) rfl (Nat.le_of_ble_eq_true rfl) fun x0 hq => ?_
  have h0 := h
  obtain ⟨s, u, lo, ln, lr, lp, la, hd⟩ := q
  obtain ⟨ow, nb, ro, pf, pa, h1, h2, h3, h4, h5, rfl, rfl, rfl, rfl, rfl, h6, hs⟩ := h
  replace hs : zHas ws (hL g A s u ow nb ro pf pa hd R).flatten := hs
  have hu : s.2.2.2.2.2.2 = false := hu
  refine zo_iload_n (i := i_Ho_send) (pc := 0) d_Ho_send_0 rfl ?_
  refine zc_S1 (i := i_Ho_send) (pc := 1) m_Ho_isAddress (ztb_of k_652 rfl) (ztb_of k_653 rfl) d_Ho_send_1 (Nat.le_of_ble_eq_true rfl) (Nat.le_of_ble_eq_true rfl) (Nat.le_of_ble_eq_true rfl) (Nat.le_of_ble_eq_true rfl) (c_Ho_isAddress ?_)
  refine zo_if_eq (i := i_Ho_send) (pc := 4) (tgt := 21) d_Ho_send_4 (by decide) (fun h4 => False.elim (by first | exact absurd h4 ((zb_t ha)) | exact absurd ((zb_t ha)) h4)) (fun h4 => ?_)
  refine zo_iload_n (i := i_Ho_send) (pc := 7) d_Ho_send_7 rfl ?_
  refine zo_iconst (i := i_Ho_send) (pc := 8) (v := 1) d_Ho_send_8 (by decide) ?_
  refine zo_bipush (i := i_Ho_send) (pc := 9) (v := 40) d_Ho_send_9 (by decide) ?_
  refine zc_S3 (i := i_Ho_send) (pc := 11) m_Ho_isWithin (ztb_of k_359 rfl) (ztb_of k_360 rfl) d_Ho_send_11 (Nat.le_of_ble_eq_true rfl) (Nat.le_of_ble_eq_true rfl) (Nat.le_of_ble_eq_true rfl) (Nat.le_of_ble_eq_true rfl) (c_Ho_isWithin ?_)
  refine zo_if_eq (i := i_Ho_send) (pc := 14) (tgt := 21) d_Ho_send_14 (by decide) (fun h14 => False.elim (by first | exact absurd h14 ((zb_t hn)) | exact absurd ((zb_t hn)) h14)) (fun h14 => ?_)
  refine zo_iconst (i := i_Ho_send) (pc := 17) (v := 1) d_Ho_send_17 (by decide) ?_
  refine zo_goto (i := i_Ho_send) (pc := 18) (tgt := 22) d_Ho_send_18 (by decide) ?_
  refine zc_S1 (i := i_Ho_send) (pc := 22) m_Ho_requireArguments (ztb_of k_362 rfl) (ztb_of k_363 rfl) d_Ho_send_22 (Nat.le_of_ble_eq_true rfl) (Nat.le_of_ble_eq_true rfl) (Nat.le_of_ble_eq_true rfl) (Nat.le_of_ble_eq_true rfl) (c_Ho_requireArguments (by decide) ?_)
  refine zo_aload_n (i := i_Ho_send) (pc := 25) d_Ho_send_25 rfl rfl ?_
  refine zc_V0 (i := i_Ho_send) (pc := 26) 9 rfl m_Ho_requireUp (ztb_of k_515 rfl) (ztb_of k_517 rfl) s_Ho_requireUp d_Ho_send_26 (Nat.le_of_ble_eq_true rfl) (Nat.le_of_ble_eq_true rfl) (Nat.le_of_ble_eq_true rfl) (Nat.le_of_ble_eq_true rfl) (hs.get (t := 0) rfl) (c_Ho_requireUp (A := A) (s := s) (hs.get (t := 0) rfl) hu ?_)
  refine zo_aload_n (i := i_Ho_send) (pc := 29) d_Ho_send_29 rfl rfl ?_
  refine zo_get (i := i_Ho_send) (pc := 30) 9 2 rfl zok_Ho (Nat.le_of_ble_eq_true rfl) (ztb_of k_264 rfl) d_Ho_send_30 (fun _ _ _ h => h) (hs.get (t := 0) rfl) rfl ?_
  refine zo_iload_n (i := i_Ho_send) (pc := 33) d_Ho_send_33 rfl ?_
  refine zc_S1 (i := i_Ho_send) (pc := 34) m_Ho_isLocal (ztb_of k_666 rfl) (ztb_of k_667 rfl) d_Ho_send_34 (Nat.le_of_ble_eq_true rfl) (Nat.le_of_ble_eq_true rfl) (Nat.le_of_ble_eq_true rfl) (Nat.le_of_ble_eq_true rfl) (c_Ho_isLocal ?_)
  refine zc_VN1 (i := i_Ho_send) (pc := 37) 6 rfl m_Or_hasUsable (ztb_of k_691 rfl) (ztb_of k_693 rfl) s_Or_hasUsable d_Ho_send_37 (Nat.le_of_ble_eq_true rfl) (Nat.le_of_ble_eq_true rfl) (Nat.le_of_ble_eq_true rfl) (Nat.le_of_ble_eq_true rfl) ((hs.pick 2 rfl).get (t := 0) rfl) (c_Or_hasUsable (hs.pick 2 rfl) h1.1 (Nat.le_trans h1.2 (by decide)) ?_)
  refine zo_if_ne (i := i_Ho_send) (pc := 40) (tgt := 45) d_Ho_send_40 (by decide) (fun h40 => ?_) (fun h40 => ?_)
  · refine zo_iload_n (i := i_Ho_send) (pc := 45) d_Ho_send_45 rfl ?_
    refine zo_aload_n (i := i_Ho_send) (pc := 46) d_Ho_send_46 rfl rfl ?_
    refine zo_iload_n (i := i_Ho_send) (pc := 47) d_Ho_send_47 rfl ?_
    refine zc_V1 (i := i_Ho_send) (pc := 48) 9 rfl m_Ho_sizeTo (ztb_of k_697 rfl) (ztb_of k_338 rfl) (ztb_of k_339 rfl) d_Ho_send_48 (Nat.le_of_ble_eq_true rfl) (Nat.le_of_ble_eq_true rfl) (Nat.le_of_ble_eq_true rfl) (Nat.le_of_ble_eq_true rfl) (hs.get (t := 0) rfl) (c_Ho_sizeTo h0 ?_)
    refine zo_icmp_le (i := i_Ho_send) (pc := 51) (tgt := 56) d_Ho_send_51 (by decide) (fun h51 => ?_) (fun h51 => ?_)
    · refine zo_aload_n (i := i_Ho_send) (pc := 56) d_Ho_send_56 rfl rfl ?_
      refine zo_iload_n (i := i_Ho_send) (pc := 57) d_Ho_send_57 rfl ?_
      refine zc_V1 (i := i_Ho_send) (pc := 58) 9 rfl m_Ho_isOnLink (ztb_of k_698 rfl) (ztb_of k_700 rfl) s_Ho_isOnLink d_Ho_send_58 (Nat.le_of_ble_eq_true rfl) (Nat.le_of_ble_eq_true rfl) (Nat.le_of_ble_eq_true rfl) (Nat.le_of_ble_eq_true rfl) (hs.get (t := 0) rfl) (c_Ho_isOnLink h0 ?_)
      refine zo_if_eq (i := i_Ho_send) (pc := 61) (tgt := 68) d_Ho_send_61 (by decide) (fun h61 => ?_) (fun h61 => ?_)
      · refine zo_aload_n (i := i_Ho_send) (pc := 68) d_Ho_send_68 rfl rfl ?_
        refine zc_V0 (i := i_Ho_send) (pc := 69) 9 rfl m_Ho_pickRouter (ztb_of k_702 rfl) (ztb_of k_704 rfl) s_Ho_pickRouter d_Ho_send_69 (Nat.le_of_ble_eq_true rfl) (Nat.le_of_ble_eq_true rfl) (Nat.le_of_ble_eq_true rfl) (Nat.le_of_ble_eq_true rfl) (hs.get (t := 0) rfl) (c_Ho_pickRouter h0 ?_)
        refine zo_istore_n (i := i_Ho_send) (pc := 72) d_Ho_send_72 (Nat.le_of_ble_eq_true rfl) ?_
        refine zo_iload_n (i := i_Ho_send) (pc := 73) d_Ho_send_73 rfl ?_
        refine zo_if_ne (i := i_Ho_send) (pc := 74) (tgt := 79) d_Ho_send_74 (by decide) (fun h74 => ?_) (fun h74 => ?_)
        · refine zo_aload_n (i := i_Ho_send) (pc := 79) d_Ho_send_79 rfl rfl ?_
          refine zo_iload_n (i := i_Ho_send) (pc := 80) d_Ho_send_80 rfl ?_
          refine zo_iload_n (i := i_Ho_send) (pc := 81) d_Ho_send_81 rfl ?_
          refine zc_V2 (i := i_Ho_send) (pc := 82) 9 rfl m_Ho_sendThrough (ztb_of k_714 rfl) (ztb_of k_716 rfl) s_Ho_sendThrough d_Ho_send_82 (Nat.le_of_ble_eq_true rfl) (Nat.le_of_ble_eq_true rfl) (Nat.le_of_ble_eq_true rfl) (Nat.le_of_ble_eq_true rfl) (hs.get (t := 0) rfl) (c_Ho_sendThrough h0 fun ws hF => ?_)
          refine zo_ireturn (i := i_Ho_send) (pc := 85) hq d_Ho_send_85 rfl (Nat.le_of_ble_eq_true rfl) (Nat.le_of_ble_eq_true rfl) ?_
          unfold sendQ at k
          rw [any_snd] at k
          rw [if_neg (fun q => h40 (zb_0.mpr q))] at k
          rw [if_neg (fun q => absurd h51 (Int32.not_le.mpr q))] at k
          rw [zb_0] at h61
          replace k : ∀ w, hH g A (if (if onLinkT (s, u, ow.2.map Prod.snd, nb.2.map Prod.snd, ro.2.map Prod.snd, pf.2.map Prod.snd, pa.2.map Prod.snd, hd) t = true then t else hopT (ro.2.map Prod.snd) (nb.2.map Prod.snd)) = 0 then ((3 : Int32), (s, u, ow.2.map Prod.snd, nb.2.map Prod.snd, ro.2.map Prod.snd, pf.2.map Prod.snd, pa.2.map Prod.snd, hd)) else sendT (s, u, ow.2.map Prod.snd, nb.2.map Prod.snd, ro.2.map Prod.snd, pf.2.map Prod.snd, pa.2.map Prod.snd, hd) (if onLinkT (s, u, ow.2.map Prod.snd, nb.2.map Prod.snd, ro.2.map Prod.snd, pf.2.map Prod.snd, pa.2.map Prod.snd, hd) t = true then t else hopT (ro.2.map Prod.snd) (nb.2.map Prod.snd)) n).2 R w → post (some (.int (if (if onLinkT (s, u, ow.2.map Prod.snd, nb.2.map Prod.snd, ro.2.map Prod.snd, pf.2.map Prod.snd, pa.2.map Prod.snd, hd) t = true then t else hopT (ro.2.map Prod.snd) (nb.2.map Prod.snd)) = 0 then ((3 : Int32), (s, u, ow.2.map Prod.snd, nb.2.map Prod.snd, ro.2.map Prod.snd, pf.2.map Prod.snd, pa.2.map Prod.snd, hd)) else sendT (s, u, ow.2.map Prod.snd, nb.2.map Prod.snd, ro.2.map Prod.snd, pf.2.map Prod.snd, pa.2.map Prod.snd, hd) (if onLinkT (s, u, ow.2.map Prod.snd, nb.2.map Prod.snd, ro.2.map Prod.snd, pf.2.map Prod.snd, pa.2.map Prod.snd, hd) t = true then t else hopT (ro.2.map Prod.snd) (nb.2.map Prod.snd)) n).1)) w := k
          simp only [h61, Bool.false_eq_true, if_false] at k
          replace h74 : ¬ hopT (ro.2.map Prod.snd) (nb.2.map Prod.snd) = 0 := h74
          rw [if_neg h74] at k
          exact k ws hF
        · refine zo_iconst (i := i_Ho_send) (pc := 77) (v := 3) d_Ho_send_77 (by decide) ?_
          refine zo_ireturn (i := i_Ho_send) (pc := 78) hq d_Ho_send_78 rfl (Nat.le_of_ble_eq_true rfl) (Nat.le_of_ble_eq_true rfl) ?_
          unfold sendQ at k
          rw [any_snd] at k
          rw [if_neg (fun q => h40 (zb_0.mpr q))] at k
          rw [if_neg (fun q => absurd h51 (Int32.not_le.mpr q))] at k
          rw [zb_0] at h61
          replace k : ∀ w, hH g A (if (if onLinkT (s, u, ow.2.map Prod.snd, nb.2.map Prod.snd, ro.2.map Prod.snd, pf.2.map Prod.snd, pa.2.map Prod.snd, hd) t = true then t else hopT (ro.2.map Prod.snd) (nb.2.map Prod.snd)) = 0 then ((3 : Int32), (s, u, ow.2.map Prod.snd, nb.2.map Prod.snd, ro.2.map Prod.snd, pf.2.map Prod.snd, pa.2.map Prod.snd, hd)) else sendT (s, u, ow.2.map Prod.snd, nb.2.map Prod.snd, ro.2.map Prod.snd, pf.2.map Prod.snd, pa.2.map Prod.snd, hd) (if onLinkT (s, u, ow.2.map Prod.snd, nb.2.map Prod.snd, ro.2.map Prod.snd, pf.2.map Prod.snd, pa.2.map Prod.snd, hd) t = true then t else hopT (ro.2.map Prod.snd) (nb.2.map Prod.snd)) n).2 R w → post (some (.int (if (if onLinkT (s, u, ow.2.map Prod.snd, nb.2.map Prod.snd, ro.2.map Prod.snd, pf.2.map Prod.snd, pa.2.map Prod.snd, hd) t = true then t else hopT (ro.2.map Prod.snd) (nb.2.map Prod.snd)) = 0 then ((3 : Int32), (s, u, ow.2.map Prod.snd, nb.2.map Prod.snd, ro.2.map Prod.snd, pf.2.map Prod.snd, pa.2.map Prod.snd, hd)) else sendT (s, u, ow.2.map Prod.snd, nb.2.map Prod.snd, ro.2.map Prod.snd, pf.2.map Prod.snd, pa.2.map Prod.snd, hd) (if onLinkT (s, u, ow.2.map Prod.snd, nb.2.map Prod.snd, ro.2.map Prod.snd, pf.2.map Prod.snd, pa.2.map Prod.snd, hd) t = true then t else hopT (ro.2.map Prod.snd) (nb.2.map Prod.snd)) n).1)) w := k
          simp only [h61, Bool.false_eq_true, if_false] at k
          replace h74 : hopT (ro.2.map Prod.snd) (nb.2.map Prod.snd) = 0 := h74
          rw [if_pos h74] at k
          exact k ws h0
      · refine zo_iload_n (i := i_Ho_send) (pc := 64) d_Ho_send_64 rfl ?_
        refine zo_goto (i := i_Ho_send) (pc := 65) (tgt := 72) d_Ho_send_65 (by decide) ?_
        refine zo_istore_n (i := i_Ho_send) (pc := 72) d_Ho_send_72 (Nat.le_of_ble_eq_true rfl) ?_
        refine zo_iload_n (i := i_Ho_send) (pc := 73) d_Ho_send_73 rfl ?_
        refine zo_if_ne (i := i_Ho_send) (pc := 74) (tgt := 79) d_Ho_send_74 (by decide) (fun h74 => ?_) (fun h74 => ?_)
        · refine zo_aload_n (i := i_Ho_send) (pc := 79) d_Ho_send_79 rfl rfl ?_
          refine zo_iload_n (i := i_Ho_send) (pc := 80) d_Ho_send_80 rfl ?_
          refine zo_iload_n (i := i_Ho_send) (pc := 81) d_Ho_send_81 rfl ?_
          refine zc_V2 (i := i_Ho_send) (pc := 82) 9 rfl m_Ho_sendThrough (ztb_of k_714 rfl) (ztb_of k_716 rfl) s_Ho_sendThrough d_Ho_send_82 (Nat.le_of_ble_eq_true rfl) (Nat.le_of_ble_eq_true rfl) (Nat.le_of_ble_eq_true rfl) (Nat.le_of_ble_eq_true rfl) (hs.get (t := 0) rfl) (c_Ho_sendThrough h0 fun ws hF => ?_)
          refine zo_ireturn (i := i_Ho_send) (pc := 85) hq d_Ho_send_85 rfl (Nat.le_of_ble_eq_true rfl) (Nat.le_of_ble_eq_true rfl) ?_
          unfold sendQ at k
          rw [any_snd] at k
          rw [if_neg (fun q => h40 (zb_0.mpr q))] at k
          rw [if_neg (fun q => absurd h51 (Int32.not_le.mpr q))] at k
          rw [zb_0, Bool.not_eq_false] at h61
          replace k : ∀ w, hH g A (if (if onLinkT (s, u, ow.2.map Prod.snd, nb.2.map Prod.snd, ro.2.map Prod.snd, pf.2.map Prod.snd, pa.2.map Prod.snd, hd) t = true then t else hopT (ro.2.map Prod.snd) (nb.2.map Prod.snd)) = 0 then ((3 : Int32), (s, u, ow.2.map Prod.snd, nb.2.map Prod.snd, ro.2.map Prod.snd, pf.2.map Prod.snd, pa.2.map Prod.snd, hd)) else sendT (s, u, ow.2.map Prod.snd, nb.2.map Prod.snd, ro.2.map Prod.snd, pf.2.map Prod.snd, pa.2.map Prod.snd, hd) (if onLinkT (s, u, ow.2.map Prod.snd, nb.2.map Prod.snd, ro.2.map Prod.snd, pf.2.map Prod.snd, pa.2.map Prod.snd, hd) t = true then t else hopT (ro.2.map Prod.snd) (nb.2.map Prod.snd)) n).2 R w → post (some (.int (if (if onLinkT (s, u, ow.2.map Prod.snd, nb.2.map Prod.snd, ro.2.map Prod.snd, pf.2.map Prod.snd, pa.2.map Prod.snd, hd) t = true then t else hopT (ro.2.map Prod.snd) (nb.2.map Prod.snd)) = 0 then ((3 : Int32), (s, u, ow.2.map Prod.snd, nb.2.map Prod.snd, ro.2.map Prod.snd, pf.2.map Prod.snd, pa.2.map Prod.snd, hd)) else sendT (s, u, ow.2.map Prod.snd, nb.2.map Prod.snd, ro.2.map Prod.snd, pf.2.map Prod.snd, pa.2.map Prod.snd, hd) (if onLinkT (s, u, ow.2.map Prod.snd, nb.2.map Prod.snd, ro.2.map Prod.snd, pf.2.map Prod.snd, pa.2.map Prod.snd, hd) t = true then t else hopT (ro.2.map Prod.snd) (nb.2.map Prod.snd)) n).1)) w := k
          simp only [h61, eq_self, if_true] at k
          rw [if_neg h74] at k
          exact k ws hF
        · refine zo_iconst (i := i_Ho_send) (pc := 77) (v := 3) d_Ho_send_77 (by decide) ?_
          refine zo_ireturn (i := i_Ho_send) (pc := 78) hq d_Ho_send_78 rfl (Nat.le_of_ble_eq_true rfl) (Nat.le_of_ble_eq_true rfl) ?_
          unfold sendQ at k
          rw [any_snd] at k
          rw [if_neg (fun q => h40 (zb_0.mpr q))] at k
          rw [if_neg (fun q => absurd h51 (Int32.not_le.mpr q))] at k
          rw [zb_0, Bool.not_eq_false] at h61
          replace k : ∀ w, hH g A (if (if onLinkT (s, u, ow.2.map Prod.snd, nb.2.map Prod.snd, ro.2.map Prod.snd, pf.2.map Prod.snd, pa.2.map Prod.snd, hd) t = true then t else hopT (ro.2.map Prod.snd) (nb.2.map Prod.snd)) = 0 then ((3 : Int32), (s, u, ow.2.map Prod.snd, nb.2.map Prod.snd, ro.2.map Prod.snd, pf.2.map Prod.snd, pa.2.map Prod.snd, hd)) else sendT (s, u, ow.2.map Prod.snd, nb.2.map Prod.snd, ro.2.map Prod.snd, pf.2.map Prod.snd, pa.2.map Prod.snd, hd) (if onLinkT (s, u, ow.2.map Prod.snd, nb.2.map Prod.snd, ro.2.map Prod.snd, pf.2.map Prod.snd, pa.2.map Prod.snd, hd) t = true then t else hopT (ro.2.map Prod.snd) (nb.2.map Prod.snd)) n).2 R w → post (some (.int (if (if onLinkT (s, u, ow.2.map Prod.snd, nb.2.map Prod.snd, ro.2.map Prod.snd, pf.2.map Prod.snd, pa.2.map Prod.snd, hd) t = true then t else hopT (ro.2.map Prod.snd) (nb.2.map Prod.snd)) = 0 then ((3 : Int32), (s, u, ow.2.map Prod.snd, nb.2.map Prod.snd, ro.2.map Prod.snd, pf.2.map Prod.snd, pa.2.map Prod.snd, hd)) else sendT (s, u, ow.2.map Prod.snd, nb.2.map Prod.snd, ro.2.map Prod.snd, pf.2.map Prod.snd, pa.2.map Prod.snd, hd) (if onLinkT (s, u, ow.2.map Prod.snd, nb.2.map Prod.snd, ro.2.map Prod.snd, pf.2.map Prod.snd, pa.2.map Prod.snd, hd) t = true then t else hopT (ro.2.map Prod.snd) (nb.2.map Prod.snd)) n).1)) w := k
          simp only [h61, eq_self, if_true] at k
          rw [if_pos h74] at k
          exact k ws h0
    · refine zo_iconst (i := i_Ho_send) (pc := 54) (v := 2) d_Ho_send_54 (by decide) ?_
      refine zo_ireturn (i := i_Ho_send) (pc := 55) hq d_Ho_send_55 rfl (Nat.le_of_ble_eq_true rfl) (Nat.le_of_ble_eq_true rfl) ?_
      unfold sendQ at k
      rw [any_snd] at k
      rw [if_neg (fun q => h40 (zb_0.mpr q))] at k
      rw [if_pos (Int32.not_le.mp h51)] at k
      exact k ws h0
  · refine zo_iconst (i := i_Ho_send) (pc := 43) (v := 4) d_Ho_send_43 (by decide) ?_
    refine zo_ireturn (i := i_Ho_send) (pc := 44) hq d_Ho_send_44 rfl (Nat.le_of_ble_eq_true rfl) (Nat.le_of_ble_eq_true rfl) ?_
    unfold sendQ at k
    rw [any_snd] at k
    rw [zb_0] at h40
    rw [if_pos h40] at k
    exact k ws h0
theorem c_Ho_header {g : zG} {ws : va_W} {post : Option Value → va_W → Prop} {A : Nat → Nat} {q : hT} {R : va_W} (h : hH g A q R ws) {a b : Int32} (ha : zwithin a 0 9 = true) (hb : zwithin b 0 3 = true) (h6n : q.2.2.2.2.2.2.2.1 < 6) (k : ∀ w, hH g A (headT q a b) R w → post (some (.int (nI (q.2.2.2.2.2.2.2.1 + 1)))) w) : zC g i_Ho_header [.ref (A 0), .int a, .int b] ws post := by
  refine zC.intro (by decide +kernel) rfl (Nat.le_of_ble_eq_true rfl) fun x0 hq => ?_
  have h0 := h
  obtain ⟨s, u, lo, ln, lr, lp, la, hd⟩ := q
  obtain ⟨ow, nb, ro, pf, pa, h1, h2, h3, h4, h5, rfl, rfl, rfl, rfl, rfl, h6, hs⟩ := h
  replace hs : zHas ws (hL g A s u ow nb ro pf pa hd R).flatten := hs
  have h6n : hd.1 < 6 := h6n
  refine zo_iload_n (i := i_Ho_header) (pc := 0) d_Ho_header_0 rfl ?_
  refine zo_iconst (i := i_Ho_header) (pc := 1) (v := 0) d_Ho_header_1 (by decide) ?_
  refine zo_bipush (i := i_Ho_header) (pc := 2) (v := 9) d_Ho_header_2 (by decide) ?_
  refine zc_S3 (i := i_Ho_header) (pc := 4) m_Ho_isWithin (ztb_of k_359 rfl) (ztb_of k_360 rfl) d_Ho_header_4 (Nat.le_of_ble_eq_true rfl) (Nat.le_of_ble_eq_true rfl) (Nat.le_of_ble_eq_true rfl) (Nat.le_of_ble_eq_true rfl) (c_Ho_isWithin ?_)
  refine zo_if_eq (i := i_Ho_header) (pc := 7) (tgt := 23) d_Ho_header_7 (by decide) (fun h7 => False.elim (by first | exact absurd h7 ((zb_t ha)) | exact absurd ((zb_t ha)) h7)) (fun h7 => ?_)
  refine zo_iload_n (i := i_Ho_header) (pc := 10) d_Ho_header_10 rfl ?_
  refine zo_iconst (i := i_Ho_header) (pc := 11) (v := 0) d_Ho_header_11 (by decide) ?_
  refine zo_iconst (i := i_Ho_header) (pc := 12) (v := 3) d_Ho_header_12 (by decide) ?_
  refine zc_S3 (i := i_Ho_header) (pc := 13) m_Ho_isWithin (ztb_of k_359 rfl) (ztb_of k_360 rfl) d_Ho_header_13 (Nat.le_of_ble_eq_true rfl) (Nat.le_of_ble_eq_true rfl) (Nat.le_of_ble_eq_true rfl) (Nat.le_of_ble_eq_true rfl) (c_Ho_isWithin ?_)
  refine zo_if_eq (i := i_Ho_header) (pc := 16) (tgt := 23) d_Ho_header_16 (by decide) (fun h16 => False.elim (by first | exact absurd h16 ((zb_t hb)) | exact absurd ((zb_t hb)) h16)) (fun h16 => ?_)
  refine zo_iconst (i := i_Ho_header) (pc := 19) (v := 1) d_Ho_header_19 (by decide) ?_
  refine zo_goto (i := i_Ho_header) (pc := 20) (tgt := 24) d_Ho_header_20 (by decide) ?_
  refine zc_S1 (i := i_Ho_header) (pc := 24) m_Ho_requireArguments (ztb_of k_362 rfl) (ztb_of k_363 rfl) d_Ho_header_24 (Nat.le_of_ble_eq_true rfl) (Nat.le_of_ble_eq_true rfl) (Nat.le_of_ble_eq_true rfl) (Nat.le_of_ble_eq_true rfl) (c_Ho_requireArguments (by decide) ?_)
  refine zo_aload_n (i := i_Ho_header) (pc := 27) d_Ho_header_27 rfl rfl ?_
  refine zo_get (i := i_Ho_header) (pc := 28) 9 7 rfl zok_Ho (Nat.le_of_ble_eq_true rfl) (ztb_of k_269 rfl) d_Ho_header_28 (fun _ _ _ h => h) (hs.get (t := 0) rfl) rfl ?_
  refine zc_VN0 (i := i_Ho_header) (pc := 31) 1 rfl m_Hd_isFull (ztb_of k_732 rfl) (ztb_of k_734 rfl) s_Hd_isFull d_Ho_header_31 (Nat.le_of_ble_eq_true rfl) (Nat.le_of_ble_eq_true rfl) (Nat.le_of_ble_eq_true rfl) (Nat.le_of_ble_eq_true rfl) ((hs.pick 7 rfl).get (t := 0) rfl) (c_Hd_isFull (hs.pick 7 rfl) ?_)
  refine zo_if_eq (i := i_Ho_header) (pc := 34) (tgt := 47) d_Ho_header_34 (by decide) (fun h34 => ?_) (fun h34 => False.elim (by first | exact absurd h34 (by rw [show (6 : Int32) = nI 6 by decide, decide_eq_true (nI_lt h6n (by decide) : nI hd.1 < nI 6)]; rfl) | exact absurd (by rw [show (6 : Int32) = nI 6 by decide, decide_eq_true (nI_lt h6n (by decide) : nI hd.1 < nI 6)]; rfl) h34))
  refine zo_aload_n (i := i_Ho_header) (pc := 47) d_Ho_header_47 rfl rfl ?_
  refine zo_get (i := i_Ho_header) (pc := 48) 9 7 rfl zok_Ho (Nat.le_of_ble_eq_true rfl) (ztb_of k_269 rfl) d_Ho_header_48 (fun _ _ _ h => h) (hs.get (t := 0) rfl) rfl ?_
  refine zo_iload_n (i := i_Ho_header) (pc := 51) d_Ho_header_51 rfl ?_
  refine zo_iload_n (i := i_Ho_header) (pc := 52) d_Ho_header_52 rfl ?_
  refine zc_VN2 (i := i_Ho_header) (pc := 53) 1 rfl m_Hd_add (ztb_of k_737 rfl) (ztb_of k_739 rfl) s_Hd_add d_Ho_header_53 (Nat.le_of_ble_eq_true rfl) (Nat.le_of_ble_eq_true rfl) (Nat.le_of_ble_eq_true rfl) (Nat.le_of_ble_eq_true rfl) ((hs.pick 7 rfl).get (t := 0) rfl) (c_Hd_add (hs.pick 7 rfl) (vp_in_nI h6n (by decide)) fun ws hs => ?_)
  rw [nI_clamp (by omega), nI_1] at hs
  replace hs : zHas ws (hL g A s u ow nb ro pf pa (hd.1 + 1, upd hd.2.1 hd.1 a, upd hd.2.2 hd.1 b) R).flatten := zHas.back (cs := hL g A s u ow nb ro pf pa hd R) 7 rfl hs
  refine zo_aload_n (i := i_Ho_header) (pc := 56) d_Ho_header_56 rfl rfl ?_
  refine zo_get (i := i_Ho_header) (pc := 57) 9 7 rfl zok_Ho (Nat.le_of_ble_eq_true rfl) (ztb_of k_269 rfl) d_Ho_header_57 (fun _ _ _ h => h) (hs.get (t := 0) rfl) rfl ?_
  refine zo_getN (i := i_Ho_header) (pc := 60) 1 2 rfl zok_Hd (Nat.le_of_ble_eq_true rfl) (ztb_of k_139 rfl) d_Ho_header_60 (fun _ _ _ h => h) ((hs.pick 7 rfl).get (t := 0) rfl) rfl ?_
  refine zo_ireturn (i := i_Ho_header) (pc := 63) hq d_Ho_header_63 rfl (Nat.le_of_ble_eq_true rfl) (Nat.le_of_ble_eq_true rfl) ?_
  exact k ws ⟨_, _, _, _, _, h1, h2, h3, h4, h5, rfl, rfl, rfl, rfl, rfl, (by show hd.1 + 1 ≤ 6; omega), hs⟩
theorem c_Ho_come {g : zG} {ws : va_W} {post : Option Value → va_W → Prop} {A : Nat → Nat} {q : hT} {R : va_W} (h : hH g A q R ws) {f t : Int32} (hf : f = 0 ∨ zaddr f = true) (ht : t = 65535 ∨ zaddr t = true) (hu : q.1.2.2.2.2.2.2 = false) (k : ∀ w, hH g A (comeT q f t).2 R w → post (some (.int (comeT q f t).1)) w) : zC g i_Ho_come [.ref (A 0), .int f, .int t] ws post := by
  refine zC.intro (by decide +kernel) rfl (Nat.le_of_ble_eq_true rfl) fun x0 hq => ?_
  have h0 := h
  obtain ⟨s, u, lo, ln, lr, lp, la, hd⟩ := q
  obtain ⟨ow, nb, ro, pf, pa, h1, h2, h3, h4, h5, rfl, rfl, rfl, rfl, rfl, h6, hs⟩ := h
  replace hs : zHas ws (hL g A s u ow nb ro pf pa hd R).flatten := hs
  have hu : s.2.2.2.2.2.2 = false := hu
  refine zo_iload_n (i := i_Ho_come) (pc := 0) d_Ho_come_0 rfl ?_
  refine zo_if_eq (i := i_Ho_come) (pc := 1) (tgt := 11) d_Ho_come_1 (by decide) (fun h1f => ?_) (fun h1f => ?_)
  · refine zo_iload_n (i := i_Ho_come) (pc := 11) d_Ho_come_11 rfl ?_
    refine zo_ldc (i := i_Ho_come) (pc := 12) d_Ho_come_12 (ztb_of k_256 rfl) ?_
    refine zo_icmp_eq (i := i_Ho_come) (pc := 14) (tgt := 24) d_Ho_come_14 (by decide) (fun h14 => ?_) (fun h14 => ?_)
    · refine zo_iconst (i := i_Ho_come) (pc := 24) (v := 1) d_Ho_come_24 (by decide) ?_
      refine zo_goto (i := i_Ho_come) (pc := 25) (tgt := 29) d_Ho_come_25 (by decide) ?_
      refine zc_S1 (i := i_Ho_come) (pc := 29) m_Ho_requireArguments (ztb_of k_362 rfl) (ztb_of k_363 rfl) d_Ho_come_29 (Nat.le_of_ble_eq_true rfl) (Nat.le_of_ble_eq_true rfl) (Nat.le_of_ble_eq_true rfl) (Nat.le_of_ble_eq_true rfl) (c_Ho_requireArguments (by decide) ?_)
      refine zo_aload_n (i := i_Ho_come) (pc := 32) d_Ho_come_32 rfl rfl ?_
      refine zc_V0 (i := i_Ho_come) (pc := 33) 9 rfl m_Ho_requireUp (ztb_of k_515 rfl) (ztb_of k_517 rfl) s_Ho_requireUp d_Ho_come_33 (Nat.le_of_ble_eq_true rfl) (Nat.le_of_ble_eq_true rfl) (Nat.le_of_ble_eq_true rfl) (Nat.le_of_ble_eq_true rfl) (hs.get (t := 0) rfl) (c_Ho_requireUp (A := A) (s := s) (hs.get (t := 0) rfl) hu ?_)
      refine zo_aload_n (i := i_Ho_come) (pc := 36) d_Ho_come_36 rfl rfl ?_
      refine zo_iload_n (i := i_Ho_come) (pc := 37) d_Ho_come_37 rfl ?_
      refine zc_V1 (i := i_Ho_come) (pc := 38) 9 rfl m_Ho_isForHost (ztb_of k_748 rfl) (ztb_of k_750 rfl) s_Ho_isForHost d_Ho_come_38 (Nat.le_of_ble_eq_true rfl) (Nat.le_of_ble_eq_true rfl) (Nat.le_of_ble_eq_true rfl) (Nat.le_of_ble_eq_true rfl) (hs.get (t := 0) rfl) (c_Ho_isForHost h0 ?_)
      refine zo_if_eq (i := i_Ho_come) (pc := 41) (tgt := 63) d_Ho_come_41 (by decide) (fun h41 => ?_) (fun h41 => ?_)
      · refine zo_iconst (i := i_Ho_come) (pc := 63) (v := 0) d_Ho_come_63 (by decide) ?_
        refine zo_istore_n (i := i_Ho_come) (pc := 64) d_Ho_come_64 (Nat.le_of_ble_eq_true rfl) ?_
        refine zo_aload_n (i := i_Ho_come) (pc := 65) d_Ho_come_65 rfl rfl ?_
        refine zo_get (i := i_Ho_come) (pc := 66) 9 7 rfl zok_Ho (Nat.le_of_ble_eq_true rfl) (ztb_of k_269 rfl) d_Ho_come_66 (fun _ _ _ h => h) (hs.get (t := 0) rfl) rfl ?_
        refine zc_VN0 (i := i_Ho_come) (pc := 69) 1 rfl m_Hd_clear (ztb_of k_764 rfl) (ztb_of k_766 rfl) s_Hd_clear d_Ho_come_69 (Nat.le_of_ble_eq_true rfl) (Nat.le_of_ble_eq_true rfl) (Nat.le_of_ble_eq_true rfl) (Nat.le_of_ble_eq_true rfl) ((hs.pick 7 rfl).get (t := 0) rfl) (c_Hd_clear (hs.pick 7 rfl) fun ws hs => ?_)
        refine zo_iload_n (i := i_Ho_come) (pc := 72) d_Ho_come_72 rfl ?_
        refine zo_ireturn (i := i_Ho_come) (pc := 73) hq d_Ho_come_73 rfl (Nat.le_of_ble_eq_true rfl) (Nat.le_of_ble_eq_true rfl) ?_
        unfold comeT at k
        rw [zb_0] at h41
        rw [if_neg (by rw [h41]; decide)] at k
        refine k ws ?_
        replace hs : zHas ws (hL g A s u ow nb ro pf pa (0, hd.2) R).flatten := zHas.back (cs := hL g A s u ow nb ro pf pa hd R) 7 rfl hs
        exact ⟨_, _, _, _, _, h1, h2, h3, h4, h5, rfl, rfl, rfl, rfl, rfl, Nat.zero_le _, hs⟩
      · refine zo_aload_n (i := i_Ho_come) (pc := 44) d_Ho_come_44 rfl rfl ?_
        refine zo_iload_n (i := i_Ho_come) (pc := 45) d_Ho_come_45 rfl ?_
        refine zo_iload_n (i := i_Ho_come) (pc := 46) d_Ho_come_46 rfl ?_
        refine zo_ldc (i := i_Ho_come) (pc := 47) d_Ho_come_47 (ztb_of k_256 rfl) ?_
        refine zo_icmp_ne (i := i_Ho_come) (pc := 49) (tgt := 56) d_Ho_come_49 (by decide) (fun h49 => False.elim (by first | exact absurd h49 (h14) | exact absurd (h14) h49)) (fun h49 => ?_)
        refine zo_iconst (i := i_Ho_come) (pc := 52) (v := 1) d_Ho_come_52 (by decide) ?_
        refine zo_goto (i := i_Ho_come) (pc := 53) (tgt := 57) d_Ho_come_53 (by decide) ?_
        refine zc_V2 (i := i_Ho_come) (pc := 57) 9 rfl m_Ho_lookAtHeaders (ztb_of k_752 rfl) (ztb_of k_754 rfl) s_Ho_lookAtHeaders d_Ho_come_57 (Nat.le_of_ble_eq_true rfl) (Nat.le_of_ble_eq_true rfl) (Nat.le_of_ble_eq_true rfl) (Nat.le_of_ble_eq_true rfl) (hs.get (t := 0) rfl) (c_Ho_lookAtHeaders (gr := true) h0 fun ws hF => ?_)
        obtain ⟨ow, nb, ro, pf, pa, h1, h2, h3, h4, h5, e1, e2, e3, e4, e5, h6, hs⟩ := hF
        refine zo_goto (i := i_Ho_come) (pc := 60) (tgt := 64) d_Ho_come_60 (by decide) ?_
        refine zo_istore_n (i := i_Ho_come) (pc := 64) d_Ho_come_64 (Nat.le_of_ble_eq_true rfl) ?_
        refine zo_aload_n (i := i_Ho_come) (pc := 65) d_Ho_come_65 rfl rfl ?_
        refine zo_get (i := i_Ho_come) (pc := 66) 9 7 rfl zok_Ho (Nat.le_of_ble_eq_true rfl) (ztb_of k_269 rfl) d_Ho_come_66 (fun _ _ _ h => h) (hs.get (t := 0) rfl) rfl ?_
        refine zc_VN0 (i := i_Ho_come) (pc := 69) 1 rfl m_Hd_clear (ztb_of k_764 rfl) (ztb_of k_766 rfl) s_Hd_clear d_Ho_come_69 (Nat.le_of_ble_eq_true rfl) (Nat.le_of_ble_eq_true rfl) (Nat.le_of_ble_eq_true rfl) (Nat.le_of_ble_eq_true rfl) ((hs.pick 7 rfl).get (t := 0) rfl) (c_Hd_clear (hs.pick 7 rfl) fun ws hs => ?_)
        refine zo_iload_n (i := i_Ho_come) (pc := 72) d_Ho_come_72 rfl ?_
        refine zo_ireturn (i := i_Ho_come) (pc := 73) hq d_Ho_come_73 rfl (Nat.le_of_ble_eq_true rfl) (Nat.le_of_ble_eq_true rfl) ?_
        unfold comeT at k
        rw [zb_0, Bool.not_eq_false] at h41
        rw [if_pos h41, show decide (t = 65535) = true by simp [h14]] at k
        refine k ws ?_
        replace hs := zHas.back (cs := hL g A _ _ ow nb ro pf pa _ R) 7 rfl hs
        exact ⟨_, _, _, _, _, h1, h2, h3, h4, h5, e1, e2, e3, e4, e5, Nat.zero_le _, hs⟩
    · refine zo_iload_n (i := i_Ho_come) (pc := 17) d_Ho_come_17 rfl ?_
      refine zc_S1 (i := i_Ho_come) (pc := 18) m_Ho_isAddress (ztb_of k_652 rfl) (ztb_of k_653 rfl) d_Ho_come_18 (Nat.le_of_ble_eq_true rfl) (Nat.le_of_ble_eq_true rfl) (Nat.le_of_ble_eq_true rfl) (Nat.le_of_ble_eq_true rfl) (c_Ho_isAddress ?_)
      refine zo_if_eq (i := i_Ho_come) (pc := 21) (tgt := 28) d_Ho_come_21 (by decide) (fun h21 => False.elim (by first | exact absurd h21 ((zb_t (ht.resolve_left h14))) | exact absurd ((zb_t (ht.resolve_left h14))) h21)) (fun h21 => ?_)
      refine zo_iconst (i := i_Ho_come) (pc := 24) (v := 1) d_Ho_come_24 (by decide) ?_
      refine zo_goto (i := i_Ho_come) (pc := 25) (tgt := 29) d_Ho_come_25 (by decide) ?_
      refine zc_S1 (i := i_Ho_come) (pc := 29) m_Ho_requireArguments (ztb_of k_362 rfl) (ztb_of k_363 rfl) d_Ho_come_29 (Nat.le_of_ble_eq_true rfl) (Nat.le_of_ble_eq_true rfl) (Nat.le_of_ble_eq_true rfl) (Nat.le_of_ble_eq_true rfl) (c_Ho_requireArguments (by decide) ?_)
      refine zo_aload_n (i := i_Ho_come) (pc := 32) d_Ho_come_32 rfl rfl ?_
      refine zc_V0 (i := i_Ho_come) (pc := 33) 9 rfl m_Ho_requireUp (ztb_of k_515 rfl) (ztb_of k_517 rfl) s_Ho_requireUp d_Ho_come_33 (Nat.le_of_ble_eq_true rfl) (Nat.le_of_ble_eq_true rfl) (Nat.le_of_ble_eq_true rfl) (Nat.le_of_ble_eq_true rfl) (hs.get (t := 0) rfl) (c_Ho_requireUp (A := A) (s := s) (hs.get (t := 0) rfl) hu ?_)
      refine zo_aload_n (i := i_Ho_come) (pc := 36) d_Ho_come_36 rfl rfl ?_
      refine zo_iload_n (i := i_Ho_come) (pc := 37) d_Ho_come_37 rfl ?_
      refine zc_V1 (i := i_Ho_come) (pc := 38) 9 rfl m_Ho_isForHost (ztb_of k_748 rfl) (ztb_of k_750 rfl) s_Ho_isForHost d_Ho_come_38 (Nat.le_of_ble_eq_true rfl) (Nat.le_of_ble_eq_true rfl) (Nat.le_of_ble_eq_true rfl) (Nat.le_of_ble_eq_true rfl) (hs.get (t := 0) rfl) (c_Ho_isForHost h0 ?_)
      refine zo_if_eq (i := i_Ho_come) (pc := 41) (tgt := 63) d_Ho_come_41 (by decide) (fun h41 => ?_) (fun h41 => ?_)
      · refine zo_iconst (i := i_Ho_come) (pc := 63) (v := 0) d_Ho_come_63 (by decide) ?_
        refine zo_istore_n (i := i_Ho_come) (pc := 64) d_Ho_come_64 (Nat.le_of_ble_eq_true rfl) ?_
        refine zo_aload_n (i := i_Ho_come) (pc := 65) d_Ho_come_65 rfl rfl ?_
        refine zo_get (i := i_Ho_come) (pc := 66) 9 7 rfl zok_Ho (Nat.le_of_ble_eq_true rfl) (ztb_of k_269 rfl) d_Ho_come_66 (fun _ _ _ h => h) (hs.get (t := 0) rfl) rfl ?_
        refine zc_VN0 (i := i_Ho_come) (pc := 69) 1 rfl m_Hd_clear (ztb_of k_764 rfl) (ztb_of k_766 rfl) s_Hd_clear d_Ho_come_69 (Nat.le_of_ble_eq_true rfl) (Nat.le_of_ble_eq_true rfl) (Nat.le_of_ble_eq_true rfl) (Nat.le_of_ble_eq_true rfl) ((hs.pick 7 rfl).get (t := 0) rfl) (c_Hd_clear (hs.pick 7 rfl) fun ws hs => ?_)
        refine zo_iload_n (i := i_Ho_come) (pc := 72) d_Ho_come_72 rfl ?_
        refine zo_ireturn (i := i_Ho_come) (pc := 73) hq d_Ho_come_73 rfl (Nat.le_of_ble_eq_true rfl) (Nat.le_of_ble_eq_true rfl) ?_
        unfold comeT at k
        rw [zb_0] at h41
        rw [if_neg (by rw [h41]; decide)] at k
        refine k ws ?_
        replace hs : zHas ws (hL g A s u ow nb ro pf pa (0, hd.2) R).flatten := zHas.back (cs := hL g A s u ow nb ro pf pa hd R) 7 rfl hs
        exact ⟨_, _, _, _, _, h1, h2, h3, h4, h5, rfl, rfl, rfl, rfl, rfl, Nat.zero_le _, hs⟩
      · refine zo_aload_n (i := i_Ho_come) (pc := 44) d_Ho_come_44 rfl rfl ?_
        refine zo_iload_n (i := i_Ho_come) (pc := 45) d_Ho_come_45 rfl ?_
        refine zo_iload_n (i := i_Ho_come) (pc := 46) d_Ho_come_46 rfl ?_
        refine zo_ldc (i := i_Ho_come) (pc := 47) d_Ho_come_47 (ztb_of k_256 rfl) ?_
        refine zo_icmp_ne (i := i_Ho_come) (pc := 49) (tgt := 56) d_Ho_come_49 (by decide) (fun h49 => ?_) (fun h49 => False.elim (by first | exact absurd h49 (h14) | exact absurd (h14) h49))
        refine zo_iconst (i := i_Ho_come) (pc := 56) (v := 0) d_Ho_come_56 (by decide) ?_
        refine zc_V2 (i := i_Ho_come) (pc := 57) 9 rfl m_Ho_lookAtHeaders (ztb_of k_752 rfl) (ztb_of k_754 rfl) s_Ho_lookAtHeaders d_Ho_come_57 (Nat.le_of_ble_eq_true rfl) (Nat.le_of_ble_eq_true rfl) (Nat.le_of_ble_eq_true rfl) (Nat.le_of_ble_eq_true rfl) (hs.get (t := 0) rfl) (c_Ho_lookAtHeaders (gr := false) h0 fun ws hF => ?_)
        obtain ⟨ow, nb, ro, pf, pa, h1, h2, h3, h4, h5, e1, e2, e3, e4, e5, h6, hs⟩ := hF
        refine zo_goto (i := i_Ho_come) (pc := 60) (tgt := 64) d_Ho_come_60 (by decide) ?_
        refine zo_istore_n (i := i_Ho_come) (pc := 64) d_Ho_come_64 (Nat.le_of_ble_eq_true rfl) ?_
        refine zo_aload_n (i := i_Ho_come) (pc := 65) d_Ho_come_65 rfl rfl ?_
        refine zo_get (i := i_Ho_come) (pc := 66) 9 7 rfl zok_Ho (Nat.le_of_ble_eq_true rfl) (ztb_of k_269 rfl) d_Ho_come_66 (fun _ _ _ h => h) (hs.get (t := 0) rfl) rfl ?_
        refine zc_VN0 (i := i_Ho_come) (pc := 69) 1 rfl m_Hd_clear (ztb_of k_764 rfl) (ztb_of k_766 rfl) s_Hd_clear d_Ho_come_69 (Nat.le_of_ble_eq_true rfl) (Nat.le_of_ble_eq_true rfl) (Nat.le_of_ble_eq_true rfl) (Nat.le_of_ble_eq_true rfl) ((hs.pick 7 rfl).get (t := 0) rfl) (c_Hd_clear (hs.pick 7 rfl) fun ws hs => ?_)
        refine zo_iload_n (i := i_Ho_come) (pc := 72) d_Ho_come_72 rfl ?_
        refine zo_ireturn (i := i_Ho_come) (pc := 73) hq d_Ho_come_73 rfl (Nat.le_of_ble_eq_true rfl) (Nat.le_of_ble_eq_true rfl) ?_
        unfold comeT at k
        rw [zb_0, Bool.not_eq_false] at h41
        rw [if_pos h41, show decide (t = 65535) = false by simp [h14]] at k
        refine k ws ?_
        replace hs := zHas.back (cs := hL g A _ _ ow nb ro pf pa _ R) 7 rfl hs
        exact ⟨_, _, _, _, _, h1, h2, h3, h4, h5, e1, e2, e3, e4, e5, Nat.zero_le _, hs⟩
  · refine zo_iload_n (i := i_Ho_come) (pc := 4) d_Ho_come_4 rfl ?_
    refine zc_S1 (i := i_Ho_come) (pc := 5) m_Ho_isAddress (ztb_of k_652 rfl) (ztb_of k_653 rfl) d_Ho_come_5 (Nat.le_of_ble_eq_true rfl) (Nat.le_of_ble_eq_true rfl) (Nat.le_of_ble_eq_true rfl) (Nat.le_of_ble_eq_true rfl) (c_Ho_isAddress ?_)
    refine zo_if_eq (i := i_Ho_come) (pc := 8) (tgt := 28) d_Ho_come_8 (by decide) (fun h8 => False.elim (by first | exact absurd h8 ((zb_t (hf.resolve_left h1f))) | exact absurd ((zb_t (hf.resolve_left h1f))) h8)) (fun h8 => ?_)
    refine zo_iload_n (i := i_Ho_come) (pc := 11) d_Ho_come_11 rfl ?_
    refine zo_ldc (i := i_Ho_come) (pc := 12) d_Ho_come_12 (ztb_of k_256 rfl) ?_
    refine zo_icmp_eq (i := i_Ho_come) (pc := 14) (tgt := 24) d_Ho_come_14 (by decide) (fun h14 => ?_) (fun h14 => ?_)
    · refine zo_iconst (i := i_Ho_come) (pc := 24) (v := 1) d_Ho_come_24 (by decide) ?_
      refine zo_goto (i := i_Ho_come) (pc := 25) (tgt := 29) d_Ho_come_25 (by decide) ?_
      refine zc_S1 (i := i_Ho_come) (pc := 29) m_Ho_requireArguments (ztb_of k_362 rfl) (ztb_of k_363 rfl) d_Ho_come_29 (Nat.le_of_ble_eq_true rfl) (Nat.le_of_ble_eq_true rfl) (Nat.le_of_ble_eq_true rfl) (Nat.le_of_ble_eq_true rfl) (c_Ho_requireArguments (by decide) ?_)
      refine zo_aload_n (i := i_Ho_come) (pc := 32) d_Ho_come_32 rfl rfl ?_
      refine zc_V0 (i := i_Ho_come) (pc := 33) 9 rfl m_Ho_requireUp (ztb_of k_515 rfl) (ztb_of k_517 rfl) s_Ho_requireUp d_Ho_come_33 (Nat.le_of_ble_eq_true rfl) (Nat.le_of_ble_eq_true rfl) (Nat.le_of_ble_eq_true rfl) (Nat.le_of_ble_eq_true rfl) (hs.get (t := 0) rfl) (c_Ho_requireUp (A := A) (s := s) (hs.get (t := 0) rfl) hu ?_)
      refine zo_aload_n (i := i_Ho_come) (pc := 36) d_Ho_come_36 rfl rfl ?_
      refine zo_iload_n (i := i_Ho_come) (pc := 37) d_Ho_come_37 rfl ?_
      refine zc_V1 (i := i_Ho_come) (pc := 38) 9 rfl m_Ho_isForHost (ztb_of k_748 rfl) (ztb_of k_750 rfl) s_Ho_isForHost d_Ho_come_38 (Nat.le_of_ble_eq_true rfl) (Nat.le_of_ble_eq_true rfl) (Nat.le_of_ble_eq_true rfl) (Nat.le_of_ble_eq_true rfl) (hs.get (t := 0) rfl) (c_Ho_isForHost h0 ?_)
      refine zo_if_eq (i := i_Ho_come) (pc := 41) (tgt := 63) d_Ho_come_41 (by decide) (fun h41 => ?_) (fun h41 => ?_)
      · refine zo_iconst (i := i_Ho_come) (pc := 63) (v := 0) d_Ho_come_63 (by decide) ?_
        refine zo_istore_n (i := i_Ho_come) (pc := 64) d_Ho_come_64 (Nat.le_of_ble_eq_true rfl) ?_
        refine zo_aload_n (i := i_Ho_come) (pc := 65) d_Ho_come_65 rfl rfl ?_
        refine zo_get (i := i_Ho_come) (pc := 66) 9 7 rfl zok_Ho (Nat.le_of_ble_eq_true rfl) (ztb_of k_269 rfl) d_Ho_come_66 (fun _ _ _ h => h) (hs.get (t := 0) rfl) rfl ?_
        refine zc_VN0 (i := i_Ho_come) (pc := 69) 1 rfl m_Hd_clear (ztb_of k_764 rfl) (ztb_of k_766 rfl) s_Hd_clear d_Ho_come_69 (Nat.le_of_ble_eq_true rfl) (Nat.le_of_ble_eq_true rfl) (Nat.le_of_ble_eq_true rfl) (Nat.le_of_ble_eq_true rfl) ((hs.pick 7 rfl).get (t := 0) rfl) (c_Hd_clear (hs.pick 7 rfl) fun ws hs => ?_)
        refine zo_iload_n (i := i_Ho_come) (pc := 72) d_Ho_come_72 rfl ?_
        refine zo_ireturn (i := i_Ho_come) (pc := 73) hq d_Ho_come_73 rfl (Nat.le_of_ble_eq_true rfl) (Nat.le_of_ble_eq_true rfl) ?_
        unfold comeT at k
        rw [zb_0] at h41
        rw [if_neg (by rw [h41]; decide)] at k
        refine k ws ?_
        replace hs : zHas ws (hL g A s u ow nb ro pf pa (0, hd.2) R).flatten := zHas.back (cs := hL g A s u ow nb ro pf pa hd R) 7 rfl hs
        exact ⟨_, _, _, _, _, h1, h2, h3, h4, h5, rfl, rfl, rfl, rfl, rfl, Nat.zero_le _, hs⟩
      · refine zo_aload_n (i := i_Ho_come) (pc := 44) d_Ho_come_44 rfl rfl ?_
        refine zo_iload_n (i := i_Ho_come) (pc := 45) d_Ho_come_45 rfl ?_
        refine zo_iload_n (i := i_Ho_come) (pc := 46) d_Ho_come_46 rfl ?_
        refine zo_ldc (i := i_Ho_come) (pc := 47) d_Ho_come_47 (ztb_of k_256 rfl) ?_
        refine zo_icmp_ne (i := i_Ho_come) (pc := 49) (tgt := 56) d_Ho_come_49 (by decide) (fun h49 => False.elim (by first | exact absurd h49 (h14) | exact absurd (h14) h49)) (fun h49 => ?_)
        refine zo_iconst (i := i_Ho_come) (pc := 52) (v := 1) d_Ho_come_52 (by decide) ?_
        refine zo_goto (i := i_Ho_come) (pc := 53) (tgt := 57) d_Ho_come_53 (by decide) ?_
        refine zc_V2 (i := i_Ho_come) (pc := 57) 9 rfl m_Ho_lookAtHeaders (ztb_of k_752 rfl) (ztb_of k_754 rfl) s_Ho_lookAtHeaders d_Ho_come_57 (Nat.le_of_ble_eq_true rfl) (Nat.le_of_ble_eq_true rfl) (Nat.le_of_ble_eq_true rfl) (Nat.le_of_ble_eq_true rfl) (hs.get (t := 0) rfl) (c_Ho_lookAtHeaders (gr := true) h0 fun ws hF => ?_)
        obtain ⟨ow, nb, ro, pf, pa, h1, h2, h3, h4, h5, e1, e2, e3, e4, e5, h6, hs⟩ := hF
        refine zo_goto (i := i_Ho_come) (pc := 60) (tgt := 64) d_Ho_come_60 (by decide) ?_
        refine zo_istore_n (i := i_Ho_come) (pc := 64) d_Ho_come_64 (Nat.le_of_ble_eq_true rfl) ?_
        refine zo_aload_n (i := i_Ho_come) (pc := 65) d_Ho_come_65 rfl rfl ?_
        refine zo_get (i := i_Ho_come) (pc := 66) 9 7 rfl zok_Ho (Nat.le_of_ble_eq_true rfl) (ztb_of k_269 rfl) d_Ho_come_66 (fun _ _ _ h => h) (hs.get (t := 0) rfl) rfl ?_
        refine zc_VN0 (i := i_Ho_come) (pc := 69) 1 rfl m_Hd_clear (ztb_of k_764 rfl) (ztb_of k_766 rfl) s_Hd_clear d_Ho_come_69 (Nat.le_of_ble_eq_true rfl) (Nat.le_of_ble_eq_true rfl) (Nat.le_of_ble_eq_true rfl) (Nat.le_of_ble_eq_true rfl) ((hs.pick 7 rfl).get (t := 0) rfl) (c_Hd_clear (hs.pick 7 rfl) fun ws hs => ?_)
        refine zo_iload_n (i := i_Ho_come) (pc := 72) d_Ho_come_72 rfl ?_
        refine zo_ireturn (i := i_Ho_come) (pc := 73) hq d_Ho_come_73 rfl (Nat.le_of_ble_eq_true rfl) (Nat.le_of_ble_eq_true rfl) ?_
        unfold comeT at k
        rw [zb_0, Bool.not_eq_false] at h41
        rw [if_pos h41, show decide (t = 65535) = true by simp [h14]] at k
        refine k ws ?_
        replace hs := zHas.back (cs := hL g A _ _ ow nb ro pf pa _ R) 7 rfl hs
        exact ⟨_, _, _, _, _, h1, h2, h3, h4, h5, e1, e2, e3, e4, e5, Nat.zero_le _, hs⟩
    · refine zo_iload_n (i := i_Ho_come) (pc := 17) d_Ho_come_17 rfl ?_
      refine zc_S1 (i := i_Ho_come) (pc := 18) m_Ho_isAddress (ztb_of k_652 rfl) (ztb_of k_653 rfl) d_Ho_come_18 (Nat.le_of_ble_eq_true rfl) (Nat.le_of_ble_eq_true rfl) (Nat.le_of_ble_eq_true rfl) (Nat.le_of_ble_eq_true rfl) (c_Ho_isAddress ?_)
      refine zo_if_eq (i := i_Ho_come) (pc := 21) (tgt := 28) d_Ho_come_21 (by decide) (fun h21 => False.elim (by first | exact absurd h21 ((zb_t (ht.resolve_left h14))) | exact absurd ((zb_t (ht.resolve_left h14))) h21)) (fun h21 => ?_)
      refine zo_iconst (i := i_Ho_come) (pc := 24) (v := 1) d_Ho_come_24 (by decide) ?_
      refine zo_goto (i := i_Ho_come) (pc := 25) (tgt := 29) d_Ho_come_25 (by decide) ?_
      refine zc_S1 (i := i_Ho_come) (pc := 29) m_Ho_requireArguments (ztb_of k_362 rfl) (ztb_of k_363 rfl) d_Ho_come_29 (Nat.le_of_ble_eq_true rfl) (Nat.le_of_ble_eq_true rfl) (Nat.le_of_ble_eq_true rfl) (Nat.le_of_ble_eq_true rfl) (c_Ho_requireArguments (by decide) ?_)
      refine zo_aload_n (i := i_Ho_come) (pc := 32) d_Ho_come_32 rfl rfl ?_
      refine zc_V0 (i := i_Ho_come) (pc := 33) 9 rfl m_Ho_requireUp (ztb_of k_515 rfl) (ztb_of k_517 rfl) s_Ho_requireUp d_Ho_come_33 (Nat.le_of_ble_eq_true rfl) (Nat.le_of_ble_eq_true rfl) (Nat.le_of_ble_eq_true rfl) (Nat.le_of_ble_eq_true rfl) (hs.get (t := 0) rfl) (c_Ho_requireUp (A := A) (s := s) (hs.get (t := 0) rfl) hu ?_)
      refine zo_aload_n (i := i_Ho_come) (pc := 36) d_Ho_come_36 rfl rfl ?_
      refine zo_iload_n (i := i_Ho_come) (pc := 37) d_Ho_come_37 rfl ?_
      refine zc_V1 (i := i_Ho_come) (pc := 38) 9 rfl m_Ho_isForHost (ztb_of k_748 rfl) (ztb_of k_750 rfl) s_Ho_isForHost d_Ho_come_38 (Nat.le_of_ble_eq_true rfl) (Nat.le_of_ble_eq_true rfl) (Nat.le_of_ble_eq_true rfl) (Nat.le_of_ble_eq_true rfl) (hs.get (t := 0) rfl) (c_Ho_isForHost h0 ?_)
      refine zo_if_eq (i := i_Ho_come) (pc := 41) (tgt := 63) d_Ho_come_41 (by decide) (fun h41 => ?_) (fun h41 => ?_)
      · refine zo_iconst (i := i_Ho_come) (pc := 63) (v := 0) d_Ho_come_63 (by decide) ?_
        refine zo_istore_n (i := i_Ho_come) (pc := 64) d_Ho_come_64 (Nat.le_of_ble_eq_true rfl) ?_
        refine zo_aload_n (i := i_Ho_come) (pc := 65) d_Ho_come_65 rfl rfl ?_
        refine zo_get (i := i_Ho_come) (pc := 66) 9 7 rfl zok_Ho (Nat.le_of_ble_eq_true rfl) (ztb_of k_269 rfl) d_Ho_come_66 (fun _ _ _ h => h) (hs.get (t := 0) rfl) rfl ?_
        refine zc_VN0 (i := i_Ho_come) (pc := 69) 1 rfl m_Hd_clear (ztb_of k_764 rfl) (ztb_of k_766 rfl) s_Hd_clear d_Ho_come_69 (Nat.le_of_ble_eq_true rfl) (Nat.le_of_ble_eq_true rfl) (Nat.le_of_ble_eq_true rfl) (Nat.le_of_ble_eq_true rfl) ((hs.pick 7 rfl).get (t := 0) rfl) (c_Hd_clear (hs.pick 7 rfl) fun ws hs => ?_)
        refine zo_iload_n (i := i_Ho_come) (pc := 72) d_Ho_come_72 rfl ?_
        refine zo_ireturn (i := i_Ho_come) (pc := 73) hq d_Ho_come_73 rfl (Nat.le_of_ble_eq_true rfl) (Nat.le_of_ble_eq_true rfl) ?_
        unfold comeT at k
        rw [zb_0] at h41
        rw [if_neg (by rw [h41]; decide)] at k
        refine k ws ?_
        replace hs : zHas ws (hL g A s u ow nb ro pf pa (0, hd.2) R).flatten := zHas.back (cs := hL g A s u ow nb ro pf pa hd R) 7 rfl hs
        exact ⟨_, _, _, _, _, h1, h2, h3, h4, h5, rfl, rfl, rfl, rfl, rfl, Nat.zero_le _, hs⟩
      · refine zo_aload_n (i := i_Ho_come) (pc := 44) d_Ho_come_44 rfl rfl ?_
        refine zo_iload_n (i := i_Ho_come) (pc := 45) d_Ho_come_45 rfl ?_
        refine zo_iload_n (i := i_Ho_come) (pc := 46) d_Ho_come_46 rfl ?_
        refine zo_ldc (i := i_Ho_come) (pc := 47) d_Ho_come_47 (ztb_of k_256 rfl) ?_
        refine zo_icmp_ne (i := i_Ho_come) (pc := 49) (tgt := 56) d_Ho_come_49 (by decide) (fun h49 => ?_) (fun h49 => False.elim (by first | exact absurd h49 (h14) | exact absurd (h14) h49))
        refine zo_iconst (i := i_Ho_come) (pc := 56) (v := 0) d_Ho_come_56 (by decide) ?_
        refine zc_V2 (i := i_Ho_come) (pc := 57) 9 rfl m_Ho_lookAtHeaders (ztb_of k_752 rfl) (ztb_of k_754 rfl) s_Ho_lookAtHeaders d_Ho_come_57 (Nat.le_of_ble_eq_true rfl) (Nat.le_of_ble_eq_true rfl) (Nat.le_of_ble_eq_true rfl) (Nat.le_of_ble_eq_true rfl) (hs.get (t := 0) rfl) (c_Ho_lookAtHeaders (gr := false) h0 fun ws hF => ?_)
        obtain ⟨ow, nb, ro, pf, pa, h1, h2, h3, h4, h5, e1, e2, e3, e4, e5, h6, hs⟩ := hF
        refine zo_goto (i := i_Ho_come) (pc := 60) (tgt := 64) d_Ho_come_60 (by decide) ?_
        refine zo_istore_n (i := i_Ho_come) (pc := 64) d_Ho_come_64 (Nat.le_of_ble_eq_true rfl) ?_
        refine zo_aload_n (i := i_Ho_come) (pc := 65) d_Ho_come_65 rfl rfl ?_
        refine zo_get (i := i_Ho_come) (pc := 66) 9 7 rfl zok_Ho (Nat.le_of_ble_eq_true rfl) (ztb_of k_269 rfl) d_Ho_come_66 (fun _ _ _ h => h) (hs.get (t := 0) rfl) rfl ?_
        refine zc_VN0 (i := i_Ho_come) (pc := 69) 1 rfl m_Hd_clear (ztb_of k_764 rfl) (ztb_of k_766 rfl) s_Hd_clear d_Ho_come_69 (Nat.le_of_ble_eq_true rfl) (Nat.le_of_ble_eq_true rfl) (Nat.le_of_ble_eq_true rfl) (Nat.le_of_ble_eq_true rfl) ((hs.pick 7 rfl).get (t := 0) rfl) (c_Hd_clear (hs.pick 7 rfl) fun ws hs => ?_)
        refine zo_iload_n (i := i_Ho_come) (pc := 72) d_Ho_come_72 rfl ?_
        refine zo_ireturn (i := i_Ho_come) (pc := 73) hq d_Ho_come_73 rfl (Nat.le_of_ble_eq_true rfl) (Nat.le_of_ble_eq_true rfl) ?_
        unfold comeT at k
        rw [zb_0, Bool.not_eq_false] at h41
        rw [if_pos h41, show decide (t = 65535) = false by simp [h14]] at k
        refine k ws ?_
        replace hs := zHas.back (cs := hL g A _ _ ow nb ro pf pa _ R) 7 rfl hs
        exact ⟨_, _, _, _, _, h1, h2, h3, h4, h5, e1, e2, e3, e4, e5, Nat.zero_le _, hs⟩
theorem c_Ho_own {g : zG} {ws : va_W} {post : Option Value → va_W → Prop} {A : Nat → Nat} {q : hT} {R : va_W} (h : hH g A q R ws) {j : Nat} {x : zOD} (hx : q.2.2.1[j]? = some x) (k : post (some (.int (x.1 + 65536 * x.2.2.1))) ws) : zC g i_Ho_own [.ref (A 0), .int (nI j)] ws post := by
  refine zC.intro (by decide +kernel) rfl (Nat.le_of_ble_eq_true rfl) fun x0 hq => ?_
  have h0 := h
  obtain ⟨s, u, lo, ln, lr, lp, la, hd⟩ := q
  obtain ⟨ow, nb, ro, pf, pa, h1, h2, h3, h4, h5, rfl, rfl, rfl, rfl, rfl, h6, hs⟩ := h
  replace hs : zHas ws (hL g A s u ow nb ro pf pa hd R).flatten := hs
  have hl5 := h1.2
  replace hx : (ow.2.map Prod.snd)[j]? = some x := hx
  rw [List.getElem?_map] at hx
  obtain ⟨e, he, rfl⟩ := Option.map_eq_some_iff.mp hx
  have hlt : j < ow.2.length := (List.getElem?_eq_some_iff.mp he).1
  refine zo_iload_n (i := i_Ho_own) (pc := 0) d_Ho_own_0 rfl ?_
  refine zo_aload_n (i := i_Ho_own) (pc := 1) d_Ho_own_1 rfl rfl ?_
  refine zo_get (i := i_Ho_own) (pc := 2) 9 2 rfl zok_Ho (Nat.le_of_ble_eq_true rfl) (ztb_of k_264 rfl) d_Ho_own_2 (fun _ _ _ h => h) (hs.get (t := 0) rfl) rfl ?_
  refine zc_VN0 (i := i_Ho_own) (pc := 5) 6 rfl m_Or_length (ztb_of k_453 rfl) (ztb_of k_455 rfl) s_Or_length d_Ho_own_5 (Nat.le_of_ble_eq_true rfl) (Nat.le_of_ble_eq_true rfl) (Nat.le_of_ble_eq_true rfl) (Nat.le_of_ble_eq_true rfl) ((hs.pick 2 rfl).get (t := 0) rfl) (c_Or_length (hs.pick 2 rfl) h1.1 (Nat.le_trans h1.2 (by decide)) ?_)
  refine zc_S2 (i := i_Ho_own) (pc := 8) m_Ho_requireIndex (ztb_of k_783 rfl) (ztb_of k_784 rfl) d_Ho_own_8 (Nat.le_of_ble_eq_true rfl) (Nat.le_of_ble_eq_true rfl) (Nat.le_of_ble_eq_true rfl) (Nat.le_of_ble_eq_true rfl) (c_Ho_requireIndex (nI_pos (by omega)) (nI_lt hlt (by omega)) ?_)
  refine zo_aload_n (i := i_Ho_own) (pc := 11) d_Ho_own_11 rfl rfl ?_
  refine zo_get (i := i_Ho_own) (pc := 12) 9 2 rfl zok_Ho (Nat.le_of_ble_eq_true rfl) (ztb_of k_264 rfl) d_Ho_own_12 (fun _ _ _ h => h) (hs.get (t := 0) rfl) rfl ?_
  refine zo_iload_n (i := i_Ho_own) (pc := 15) d_Ho_own_15 rfl ?_
  refine zc_VN1 (i := i_Ho_own) (pc := 16) 6 rfl m_Or_at (ztb_of k_457 rfl) (ztb_of k_459 rfl) s_Or_at d_Ho_own_16 (Nat.le_of_ble_eq_true rfl) (Nat.le_of_ble_eq_true rfl) (Nat.le_of_ble_eq_true rfl) (Nat.le_of_ble_eq_true rfl) ((hs.pick 2 rfl).get (t := 0) rfl) (c_Or_at (hs.pick 2 rfl) h1.1 (Nat.le_trans h1.2 (by decide)) he ?_)
  refine zo_astore_n (i := i_Ho_own) (pc := 19) d_Ho_own_19 rfl (Nat.le_of_ble_eq_true rfl) ?_
  refine zo_aload_n (i := i_Ho_own) (pc := 20) d_Ho_own_20 rfl rfl ?_
  refine zo_getN (i := i_Ho_own) (pc := 21) 5 0 rfl zok_Oa (Nat.le_of_ble_eq_true rfl) (ztb_of k_170 rfl) d_Ho_own_21 (fun _ _ _ h => h) (rw_el (hs.pick 2 rfl) he) rfl ?_
  refine zo_ldc (i := i_Ho_own) (pc := 24) d_Ho_own_24 (ztb_of k_802 rfl) ?_
  refine zo_aload_n (i := i_Ho_own) (pc := 26) d_Ho_own_26 rfl rfl ?_
  refine zo_getN (i := i_Ho_own) (pc := 27) 5 2 rfl zok_Oa (Nat.le_of_ble_eq_true rfl) (ztb_of k_174 rfl) d_Ho_own_27 (fun _ _ _ h => h) (rw_el (hs.pick 2 rfl) he) rfl ?_
  refine zo_imul (i := i_Ho_own) (pc := 30) d_Ho_own_30 ?_
  refine zo_iadd (i := i_Ho_own) (pc := 31) d_Ho_own_31 ?_
  refine zo_ireturn (i := i_Ho_own) (pc := 32) hq d_Ho_own_32 rfl (Nat.le_of_ble_eq_true rfl) (Nat.le_of_ble_eq_true rfl) ?_
  exact k
theorem c_Ho_until {g : zG} {ws : va_W} {post : Option Value → va_W → Prop} {A : Nat → Nat} {q : hT} {R : va_W} (h : hH g A q R ws) {j : Nat} {x : zOD} (hx : q.2.2.1[j]? = some x) (k : post (some (.int (if x.2.2.2.1 = 2147483647 then -1 else x.2.2.2.1))) ws) : zC g i_Ho_until [.ref (A 0), .int (nI j)] ws post := by
  refine zC.intro (by decide +kernel) rfl (Nat.le_of_ble_eq_true rfl) fun x0 hq => ?_
  have h0 := h
  obtain ⟨s, u, lo, ln, lr, lp, la, hd⟩ := q
  obtain ⟨ow, nb, ro, pf, pa, h1, h2, h3, h4, h5, rfl, rfl, rfl, rfl, rfl, h6, hs⟩ := h
  replace hs : zHas ws (hL g A s u ow nb ro pf pa hd R).flatten := hs
  have hl5 := h1.2
  replace hx : (ow.2.map Prod.snd)[j]? = some x := hx
  rw [List.getElem?_map] at hx
  obtain ⟨e, he, rfl⟩ := Option.map_eq_some_iff.mp hx
  have hlt : j < ow.2.length := (List.getElem?_eq_some_iff.mp he).1
  refine zo_iload_n (i := i_Ho_until) (pc := 0) d_Ho_until_0 rfl ?_
  refine zo_aload_n (i := i_Ho_until) (pc := 1) d_Ho_until_1 rfl rfl ?_
  refine zo_get (i := i_Ho_until) (pc := 2) 9 2 rfl zok_Ho (Nat.le_of_ble_eq_true rfl) (ztb_of k_264 rfl) d_Ho_until_2 (fun _ _ _ h => h) (hs.get (t := 0) rfl) rfl ?_
  refine zc_VN0 (i := i_Ho_until) (pc := 5) 6 rfl m_Or_length (ztb_of k_453 rfl) (ztb_of k_455 rfl) s_Or_length d_Ho_until_5 (Nat.le_of_ble_eq_true rfl) (Nat.le_of_ble_eq_true rfl) (Nat.le_of_ble_eq_true rfl) (Nat.le_of_ble_eq_true rfl) ((hs.pick 2 rfl).get (t := 0) rfl) (c_Or_length (hs.pick 2 rfl) h1.1 (Nat.le_trans h1.2 (by decide)) ?_)
  refine zc_S2 (i := i_Ho_until) (pc := 8) m_Ho_requireIndex (ztb_of k_783 rfl) (ztb_of k_784 rfl) d_Ho_until_8 (Nat.le_of_ble_eq_true rfl) (Nat.le_of_ble_eq_true rfl) (Nat.le_of_ble_eq_true rfl) (Nat.le_of_ble_eq_true rfl) (c_Ho_requireIndex (nI_pos (by omega)) (nI_lt hlt (by omega)) ?_)
  refine zo_aload_n (i := i_Ho_until) (pc := 11) d_Ho_until_11 rfl rfl ?_
  refine zo_get (i := i_Ho_until) (pc := 12) 9 2 rfl zok_Ho (Nat.le_of_ble_eq_true rfl) (ztb_of k_264 rfl) d_Ho_until_12 (fun _ _ _ h => h) (hs.get (t := 0) rfl) rfl ?_
  refine zo_iload_n (i := i_Ho_until) (pc := 15) d_Ho_until_15 rfl ?_
  refine zc_VN1 (i := i_Ho_until) (pc := 16) 6 rfl m_Or_at (ztb_of k_457 rfl) (ztb_of k_459 rfl) s_Or_at d_Ho_until_16 (Nat.le_of_ble_eq_true rfl) (Nat.le_of_ble_eq_true rfl) (Nat.le_of_ble_eq_true rfl) (Nat.le_of_ble_eq_true rfl) ((hs.pick 2 rfl).get (t := 0) rfl) (c_Or_at (hs.pick 2 rfl) h1.1 (Nat.le_trans h1.2 (by decide)) he ?_)
  refine zo_getN (i := i_Ho_until) (pc := 19) 5 3 rfl zok_Oa (Nat.le_of_ble_eq_true rfl) (ztb_of k_177 rfl) d_Ho_until_19 (fun _ _ _ h => h) (rw_el (hs.pick 2 rfl) he) rfl ?_
  refine zo_istore_n (i := i_Ho_until) (pc := 22) d_Ho_until_22 (Nat.le_of_ble_eq_true rfl) ?_
  refine zo_iload_n (i := i_Ho_until) (pc := 23) d_Ho_until_23 rfl ?_
  refine zo_ldc (i := i_Ho_until) (pc := 24) d_Ho_until_24 (ztb_of k_153 rfl) ?_
  refine zo_icmp_ne (i := i_Ho_until) (pc := 26) (tgt := 33) d_Ho_until_26 (by decide) (fun h26 => ?_) (fun h26 => ?_)
  · refine zo_iload_n (i := i_Ho_until) (pc := 33) d_Ho_until_33 rfl ?_
    refine zo_ireturn (i := i_Ho_until) (pc := 34) hq d_Ho_until_34 rfl (Nat.le_of_ble_eq_true rfl) (Nat.le_of_ble_eq_true rfl) ?_
    rw [if_neg h26] at k
    exact k
  · refine zo_iconst (i := i_Ho_until) (pc := 29) (v := (-1)) d_Ho_until_29 (by decide) ?_
    refine zo_goto (i := i_Ho_until) (pc := 30) (tgt := 34) d_Ho_until_30 (by decide) ?_
    refine zo_ireturn (i := i_Ho_until) (pc := 34) hq d_Ho_until_34 rfl (Nat.le_of_ble_eq_true rfl) (Nat.le_of_ble_eq_true rfl) ?_
    rw [if_pos h26] at k
    exact k
theorem c_Ho_outKind {g : zG} {ws : va_W} {post : Option Value → va_W → Prop} {A : Nat → Nat} {q : hT} {R : va_W} (h : hH g A q R ws) {c : Nat} (hc : c < min q.2.1.1 12) (k : post (some (.int (q.2.1.2.1 ((q.2.1.1 % 12 + 23 - c) % 12)))) ws) : zC g i_Ho_outKind [.ref (A 0), .int (nI c)] ws post := by
  refine zC.intro (by decide +kernel) rfl (Nat.le_of_ble_eq_true rfl) fun x0 hq => ?_
  have h0 := h
  obtain ⟨s, u, lo, ln, lr, lp, la, hd⟩ := q
  obtain ⟨ow, nb, ro, pf, pa, h1, h2, h3, h4, h5, rfl, rfl, rfl, rfl, rfl, h6, hs⟩ := h
  replace hs : zHas ws (hL g A s u ow nb ro pf pa hd R).flatten := hs
  replace hc : c < min u.1 12 := hc
  refine zo_iload_n (i := i_Ho_outKind) (pc := 0) d_Ho_outKind_0 rfl ?_
  refine zo_aload_n (i := i_Ho_outKind) (pc := 1) d_Ho_outKind_1 rfl rfl ?_
  refine zo_get (i := i_Ho_outKind) (pc := 2) 9 1 rfl zok_Ho (Nat.le_of_ble_eq_true rfl) (ztb_of k_263 rfl) d_Ho_outKind_2 (fun _ _ _ h => h) (hs.get (t := 0) rfl) rfl ?_
  refine zo_getN (i := i_Ho_outKind) (pc := 5) 4 4 rfl zok_Ou (Nat.le_of_ble_eq_true rfl) (ztb_of k_48 rfl) d_Ho_outKind_5 (fun _ _ _ h => h) ((hs.pick 1 rfl).get (t := 0) rfl) rfl ?_
  refine zc_S2 (i := i_Ho_outKind) (pc := 8) m_Ho_requireIndex (ztb_of k_783 rfl) (ztb_of k_784 rfl) d_Ho_outKind_8 (Nat.le_of_ble_eq_true rfl) (Nat.le_of_ble_eq_true rfl) (Nat.le_of_ble_eq_true rfl) (Nat.le_of_ble_eq_true rfl) (c_Ho_requireIndex (nI_pos (by omega)) (nI_lt hc (by omega)) ?_)
  refine zo_aload_n (i := i_Ho_outKind) (pc := 11) d_Ho_outKind_11 rfl rfl ?_
  refine zo_get (i := i_Ho_outKind) (pc := 12) 9 1 rfl zok_Ho (Nat.le_of_ble_eq_true rfl) (ztb_of k_263 rfl) d_Ho_outKind_12 (fun _ _ _ h => h) (hs.get (t := 0) rfl) rfl ?_
  refine zo_getN (i := i_Ho_outKind) (pc := 15) 4 0 rfl zok_Ou (Nat.le_of_ble_eq_true rfl) (ztb_of k_41 rfl) d_Ho_outKind_15 (fun _ _ _ h => h) ((hs.pick 1 rfl).get (t := 0) rfl) rfl ?_
  refine zo_aload_n (i := i_Ho_outKind) (pc := 18) d_Ho_outKind_18 rfl rfl ?_
  refine zo_get (i := i_Ho_outKind) (pc := 19) 9 1 rfl zok_Ho (Nat.le_of_ble_eq_true rfl) (ztb_of k_263 rfl) d_Ho_outKind_19 (fun _ _ _ h => h) (hs.get (t := 0) rfl) rfl ?_
  refine zo_iload_n (i := i_Ho_outKind) (pc := 22) d_Ho_outKind_22 rfl ?_
  refine zc_VN1 (i := i_Ho_outKind) (pc := 23) 4 rfl m_Ou_slot (ztb_of k_817 rfl) (ztb_of k_819 rfl) s_Ou_slot d_Ho_outKind_23 (Nat.le_of_ble_eq_true rfl) (Nat.le_of_ble_eq_true rfl) (Nat.le_of_ble_eq_true rfl) (Nat.le_of_ble_eq_true rfl) ((hs.pick 1 rfl).get (t := 0) rfl) (c_Ou_slot (hs.pick 1 rfl) ?_)
  rw [ou_slot _ (Nat.mod_lt _ (by decide)) _ (by omega)]
  refine zo_iaload (i := i_Ho_outKind) (pc := 26) d_Ho_outKind_26 ((hs.pick 1 rfl).get (t := 1) rfl) (vp_in_nI (Nat.mod_lt _ (by decide)) (by decide)) ?_
  refine zo_ireturn (i := i_Ho_outKind) (pc := 27) hq d_Ho_outKind_27 rfl (Nat.le_of_ble_eq_true rfl) (Nat.le_of_ble_eq_true rfl) ?_
  rw [nI_clamp (Nat.lt_of_lt_of_le (Nat.mod_lt _ (by decide)) (by decide))]
  exact k
theorem c_Ho_outTo {g : zG} {ws : va_W} {post : Option Value → va_W → Prop} {A : Nat → Nat} {q : hT} {R : va_W} (h : hH g A q R ws) {c : Nat} (hc : c < min q.2.1.1 12) (k : post (some (.int (q.2.1.2.2.1 ((q.2.1.1 % 12 + 23 - c) % 12)))) ws) : zC g i_Ho_outTo [.ref (A 0), .int (nI c)] ws post := by
  refine zC.intro (by decide +kernel) rfl (Nat.le_of_ble_eq_true rfl) fun x0 hq => ?_
  have h0 := h
  obtain ⟨s, u, lo, ln, lr, lp, la, hd⟩ := q
  obtain ⟨ow, nb, ro, pf, pa, h1, h2, h3, h4, h5, rfl, rfl, rfl, rfl, rfl, h6, hs⟩ := h
  replace hs : zHas ws (hL g A s u ow nb ro pf pa hd R).flatten := hs
  replace hc : c < min u.1 12 := hc
  refine zo_iload_n (i := i_Ho_outTo) (pc := 0) d_Ho_outTo_0 rfl ?_
  refine zo_aload_n (i := i_Ho_outTo) (pc := 1) d_Ho_outTo_1 rfl rfl ?_
  refine zo_get (i := i_Ho_outTo) (pc := 2) 9 1 rfl zok_Ho (Nat.le_of_ble_eq_true rfl) (ztb_of k_263 rfl) d_Ho_outTo_2 (fun _ _ _ h => h) (hs.get (t := 0) rfl) rfl ?_
  refine zo_getN (i := i_Ho_outTo) (pc := 5) 4 4 rfl zok_Ou (Nat.le_of_ble_eq_true rfl) (ztb_of k_48 rfl) d_Ho_outTo_5 (fun _ _ _ h => h) ((hs.pick 1 rfl).get (t := 0) rfl) rfl ?_
  refine zc_S2 (i := i_Ho_outTo) (pc := 8) m_Ho_requireIndex (ztb_of k_783 rfl) (ztb_of k_784 rfl) d_Ho_outTo_8 (Nat.le_of_ble_eq_true rfl) (Nat.le_of_ble_eq_true rfl) (Nat.le_of_ble_eq_true rfl) (Nat.le_of_ble_eq_true rfl) (c_Ho_requireIndex (nI_pos (by omega)) (nI_lt hc (by omega)) ?_)
  refine zo_aload_n (i := i_Ho_outTo) (pc := 11) d_Ho_outTo_11 rfl rfl ?_
  refine zo_get (i := i_Ho_outTo) (pc := 12) 9 1 rfl zok_Ho (Nat.le_of_ble_eq_true rfl) (ztb_of k_263 rfl) d_Ho_outTo_12 (fun _ _ _ h => h) (hs.get (t := 0) rfl) rfl ?_
  refine zo_getN (i := i_Ho_outTo) (pc := 15) 4 1 rfl zok_Ou (Nat.le_of_ble_eq_true rfl) (ztb_of k_43 rfl) d_Ho_outTo_15 (fun _ _ _ h => h) ((hs.pick 1 rfl).get (t := 0) rfl) rfl ?_
  refine zo_aload_n (i := i_Ho_outTo) (pc := 18) d_Ho_outTo_18 rfl rfl ?_
  refine zo_get (i := i_Ho_outTo) (pc := 19) 9 1 rfl zok_Ho (Nat.le_of_ble_eq_true rfl) (ztb_of k_263 rfl) d_Ho_outTo_19 (fun _ _ _ h => h) (hs.get (t := 0) rfl) rfl ?_
  refine zo_iload_n (i := i_Ho_outTo) (pc := 22) d_Ho_outTo_22 rfl ?_
  refine zc_VN1 (i := i_Ho_outTo) (pc := 23) 4 rfl m_Ou_slot (ztb_of k_817 rfl) (ztb_of k_819 rfl) s_Ou_slot d_Ho_outTo_23 (Nat.le_of_ble_eq_true rfl) (Nat.le_of_ble_eq_true rfl) (Nat.le_of_ble_eq_true rfl) (Nat.le_of_ble_eq_true rfl) ((hs.pick 1 rfl).get (t := 0) rfl) (c_Ou_slot (hs.pick 1 rfl) ?_)
  rw [ou_slot _ (Nat.mod_lt _ (by decide)) _ (by omega)]
  refine zo_iaload (i := i_Ho_outTo) (pc := 26) d_Ho_outTo_26 ((hs.pick 1 rfl).get (t := 2) rfl) (vp_in_nI (Nat.mod_lt _ (by decide)) (by decide)) ?_
  refine zo_ireturn (i := i_Ho_outTo) (pc := 27) hq d_Ho_outTo_27 rfl (Nat.le_of_ble_eq_true rfl) (Nat.le_of_ble_eq_true rfl) ?_
  rw [nI_clamp (Nat.lt_of_lt_of_le (Nat.mod_lt _ (by decide)) (by decide))]
  exact k
theorem c_Ho_outX {g : zG} {ws : va_W} {post : Option Value → va_W → Prop} {A : Nat → Nat} {q : hT} {R : va_W} (h : hH g A q R ws) {c : Nat} (hc : c < min q.2.1.1 12) (k : post (some (.int (q.2.1.2.2.2 ((q.2.1.1 % 12 + 23 - c) % 12)))) ws) : zC g i_Ho_outX [.ref (A 0), .int (nI c)] ws post := by
  refine zC.intro (by decide +kernel) rfl (Nat.le_of_ble_eq_true rfl) fun x0 hq => ?_
  have h0 := h
  obtain ⟨s, u, lo, ln, lr, lp, la, hd⟩ := q
  obtain ⟨ow, nb, ro, pf, pa, h1, h2, h3, h4, h5, rfl, rfl, rfl, rfl, rfl, h6, hs⟩ := h
  replace hs : zHas ws (hL g A s u ow nb ro pf pa hd R).flatten := hs
  replace hc : c < min u.1 12 := hc
  refine zo_iload_n (i := i_Ho_outX) (pc := 0) d_Ho_outX_0 rfl ?_
  refine zo_aload_n (i := i_Ho_outX) (pc := 1) d_Ho_outX_1 rfl rfl ?_
  refine zo_get (i := i_Ho_outX) (pc := 2) 9 1 rfl zok_Ho (Nat.le_of_ble_eq_true rfl) (ztb_of k_263 rfl) d_Ho_outX_2 (fun _ _ _ h => h) (hs.get (t := 0) rfl) rfl ?_
  refine zo_getN (i := i_Ho_outX) (pc := 5) 4 4 rfl zok_Ou (Nat.le_of_ble_eq_true rfl) (ztb_of k_48 rfl) d_Ho_outX_5 (fun _ _ _ h => h) ((hs.pick 1 rfl).get (t := 0) rfl) rfl ?_
  refine zc_S2 (i := i_Ho_outX) (pc := 8) m_Ho_requireIndex (ztb_of k_783 rfl) (ztb_of k_784 rfl) d_Ho_outX_8 (Nat.le_of_ble_eq_true rfl) (Nat.le_of_ble_eq_true rfl) (Nat.le_of_ble_eq_true rfl) (Nat.le_of_ble_eq_true rfl) (c_Ho_requireIndex (nI_pos (by omega)) (nI_lt hc (by omega)) ?_)
  refine zo_aload_n (i := i_Ho_outX) (pc := 11) d_Ho_outX_11 rfl rfl ?_
  refine zo_get (i := i_Ho_outX) (pc := 12) 9 1 rfl zok_Ho (Nat.le_of_ble_eq_true rfl) (ztb_of k_263 rfl) d_Ho_outX_12 (fun _ _ _ h => h) (hs.get (t := 0) rfl) rfl ?_
  refine zo_getN (i := i_Ho_outX) (pc := 15) 4 2 rfl zok_Ou (Nat.le_of_ble_eq_true rfl) (ztb_of k_45 rfl) d_Ho_outX_15 (fun _ _ _ h => h) ((hs.pick 1 rfl).get (t := 0) rfl) rfl ?_
  refine zo_aload_n (i := i_Ho_outX) (pc := 18) d_Ho_outX_18 rfl rfl ?_
  refine zo_get (i := i_Ho_outX) (pc := 19) 9 1 rfl zok_Ho (Nat.le_of_ble_eq_true rfl) (ztb_of k_263 rfl) d_Ho_outX_19 (fun _ _ _ h => h) (hs.get (t := 0) rfl) rfl ?_
  refine zo_iload_n (i := i_Ho_outX) (pc := 22) d_Ho_outX_22 rfl ?_
  refine zc_VN1 (i := i_Ho_outX) (pc := 23) 4 rfl m_Ou_slot (ztb_of k_817 rfl) (ztb_of k_819 rfl) s_Ou_slot d_Ho_outX_23 (Nat.le_of_ble_eq_true rfl) (Nat.le_of_ble_eq_true rfl) (Nat.le_of_ble_eq_true rfl) (Nat.le_of_ble_eq_true rfl) ((hs.pick 1 rfl).get (t := 0) rfl) (c_Ou_slot (hs.pick 1 rfl) ?_)
  rw [ou_slot _ (Nat.mod_lt _ (by decide)) _ (by omega)]
  refine zo_iaload (i := i_Ho_outX) (pc := 26) d_Ho_outX_26 ((hs.pick 1 rfl).get (t := 3) rfl) (vp_in_nI (Nat.mod_lt _ (by decide)) (by decide)) ?_
  refine zo_ireturn (i := i_Ho_outX) (pc := 27) hq d_Ho_outX_27 rfl (Nat.le_of_ble_eq_true rfl) (Nat.le_of_ble_eq_true rfl) ?_
  rw [nI_clamp (Nat.lt_of_lt_of_le (Nat.mod_lt _ (by decide)) (by decide))]
  exact k
theorem c_Ho_count {g : zG} {ws : va_W} {post : Option Value → va_W → Prop} {A : Nat → Nat} {q : hT} {R : va_W} (h : hH g A q R ws) {w : Int32} (hw : zwithin w 0 11 = true) (k : post (some (.int (cntT q w))) ws) : zC g i_Ho_count [.ref (A 0), .int w] ws post := by
  refine zC.intro (by decide +kernel) rfl (Nat.le_of_ble_eq_true rfl) fun x0 hq => ?_
  have h0 := h
  obtain ⟨s, u, lo, ln, lr, lp, la, hd⟩ := q
  obtain ⟨ow, nb, ro, pf, pa, h1, h2, h3, h4, h5, rfl, rfl, rfl, rfl, rfl, h6, hs⟩ := h
  replace hs : zHas ws (hL g A s u ow nb ro pf pa hd R).flatten := hs
  refine zo_iload_n (i := i_Ho_count) (pc := 0) d_Ho_count_0 rfl ?_
  refine zo_iconst (i := i_Ho_count) (pc := 1) (v := 0) d_Ho_count_1 (by decide) ?_
  refine zo_bipush (i := i_Ho_count) (pc := 2) (v := 11) d_Ho_count_2 (by decide) ?_
  refine zc_S3 (i := i_Ho_count) (pc := 4) m_Ho_isWithin (ztb_of k_359 rfl) (ztb_of k_360 rfl) d_Ho_count_4 (Nat.le_of_ble_eq_true rfl) (Nat.le_of_ble_eq_true rfl) (Nat.le_of_ble_eq_true rfl) (Nat.le_of_ble_eq_true rfl) (c_Ho_isWithin ?_)
  refine zc_S1 (i := i_Ho_count) (pc := 7) m_Ho_requireArguments (ztb_of k_362 rfl) (ztb_of k_363 rfl) d_Ho_count_7 (Nat.le_of_ble_eq_true rfl) (Nat.le_of_ble_eq_true rfl) (Nat.le_of_ble_eq_true rfl) (Nat.le_of_ble_eq_true rfl) (c_Ho_requireArguments (zb_t hw) ?_)
  refine zo_iload_n (i := i_Ho_count) (pc := 10) d_Ho_count_10 rfl ?_
  rcases zsw_0_10 w with h11 | h11 | h11 | h11 | h11 | h11 | h11 | h11 | h11 | h11 | h11 | h11
  · rw [h11]
    refine zo_tableIn (i := i_Ho_count) (pc := 11) (off := 57) (tgt := 68) d_Ho_count_11 (by decide) (by decide) rfl (by decide) ?_
    refine zo_aload_n (i := i_Ho_count) (pc := 68) d_Ho_count_68 rfl rfl ?_
    refine zo_get (i := i_Ho_count) (pc := 69) 9 8 rfl zok_Ho (Nat.le_of_ble_eq_true rfl) (ztb_of k_270 rfl) d_Ho_count_69 (fun _ _ _ h => h) (hs.get (t := 0) rfl) rfl ?_
    refine zo_ireturn (i := i_Ho_count) (pc := 72) hq d_Ho_count_72 rfl (Nat.le_of_ble_eq_true rfl) (Nat.le_of_ble_eq_true rfl) ?_
    rw [h11] at k
    unfold cntT at k
    exact k
  · rw [h11]
    refine zo_tableIn (i := i_Ho_count) (pc := 11) (off := 62) (tgt := 73) d_Ho_count_11 (by decide) (by decide) rfl (by decide) ?_
    refine zo_aload_n (i := i_Ho_count) (pc := 73) d_Ho_count_73 rfl rfl ?_
    refine zo_get (i := i_Ho_count) (pc := 74) 9 2 rfl zok_Ho (Nat.le_of_ble_eq_true rfl) (ztb_of k_264 rfl) d_Ho_count_74 (fun _ _ _ h => h) (hs.get (t := 0) rfl) rfl ?_
    refine zc_VN0 (i := i_Ho_count) (pc := 77) 6 rfl m_Or_length (ztb_of k_453 rfl) (ztb_of k_455 rfl) s_Or_length d_Ho_count_77 (Nat.le_of_ble_eq_true rfl) (Nat.le_of_ble_eq_true rfl) (Nat.le_of_ble_eq_true rfl) (Nat.le_of_ble_eq_true rfl) ((hs.pick 2 rfl).get (t := 0) rfl) (c_Or_length (hs.pick 2 rfl) h1.1 (Nat.le_trans h1.2 (by decide)) ?_)
    refine zo_ireturn (i := i_Ho_count) (pc := 80) hq d_Ho_count_80 rfl (Nat.le_of_ble_eq_true rfl) (Nat.le_of_ble_eq_true rfl) ?_
    rw [h11] at k
    unfold cntT at k
    simp only [List.length_map] at k
    exact k
  · rw [h11]
    refine zo_tableIn (i := i_Ho_count) (pc := 11) (off := 70) (tgt := 81) d_Ho_count_11 (by decide) (by decide) rfl (by decide) ?_
    refine zo_aload_n (i := i_Ho_count) (pc := 81) d_Ho_count_81 rfl rfl ?_
    refine zo_get (i := i_Ho_count) (pc := 82) 9 4 rfl zok_Ho (Nat.le_of_ble_eq_true rfl) (ztb_of k_266 rfl) d_Ho_count_82 (fun _ _ _ h => h) (hs.get (t := 0) rfl) rfl ?_
    refine zc_VN0 (i := i_Ho_count) (pc := 85) 8 rfl m_Tr_length (ztb_of k_706 rfl) (ztb_of k_708 rfl) s_Tr_length d_Ho_count_85 (Nat.le_of_ble_eq_true rfl) (Nat.le_of_ble_eq_true rfl) (Nat.le_of_ble_eq_true rfl) (Nat.le_of_ble_eq_true rfl) ((hs.pick 4 rfl).get (t := 0) rfl) (c_Tr_length (hs.pick 4 rfl) h3.1 (Nat.le_trans h3.2 (by decide)) ?_)
    refine zo_ireturn (i := i_Ho_count) (pc := 88) hq d_Ho_count_88 rfl (Nat.le_of_ble_eq_true rfl) (Nat.le_of_ble_eq_true rfl) ?_
    rw [h11] at k
    unfold cntT at k
    simp only [List.length_map] at k
    exact k
  · rw [h11]
    refine zo_tableIn (i := i_Ho_count) (pc := 11) (off := 78) (tgt := 89) d_Ho_count_11 (by decide) (by decide) rfl (by decide) ?_
    refine zo_aload_n (i := i_Ho_count) (pc := 89) d_Ho_count_89 rfl rfl ?_
    refine zo_get (i := i_Ho_count) (pc := 90) 9 5 rfl zok_Ho (Nat.le_of_ble_eq_true rfl) (ztb_of k_267 rfl) d_Ho_count_90 (fun _ _ _ h => h) (hs.get (t := 0) rfl) rfl ?_
    refine zc_VN0 (i := i_Ho_count) (pc := 93) 8 rfl m_Tr_length (ztb_of k_706 rfl) (ztb_of k_708 rfl) s_Tr_length d_Ho_count_93 (Nat.le_of_ble_eq_true rfl) (Nat.le_of_ble_eq_true rfl) (Nat.le_of_ble_eq_true rfl) (Nat.le_of_ble_eq_true rfl) ((hs.pick 5 rfl).get (t := 0) rfl) (c_Tr_length (hs.pick 5 rfl) h4.1 (Nat.le_trans h4.2 (by decide)) ?_)
    refine zo_ireturn (i := i_Ho_count) (pc := 96) hq d_Ho_count_96 rfl (Nat.le_of_ble_eq_true rfl) (Nat.le_of_ble_eq_true rfl) ?_
    rw [h11] at k
    unfold cntT at k
    simp only [List.length_map] at k
    exact k
  · rw [h11]
    refine zo_tableIn (i := i_Ho_count) (pc := 11) (off := 86) (tgt := 97) d_Ho_count_11 (by decide) (by decide) rfl (by decide) ?_
    refine zo_aload_n (i := i_Ho_count) (pc := 97) d_Ho_count_97 rfl rfl ?_
    refine zo_get (i := i_Ho_count) (pc := 98) 9 3 rfl zok_Ho (Nat.le_of_ble_eq_true rfl) (ztb_of k_265 rfl) d_Ho_count_98 (fun _ _ _ h => h) (hs.get (t := 0) rfl) rfl ?_
    refine zc_VN0 (i := i_Ho_count) (pc := 101) 3 rfl m_Nr_length (ztb_of k_465 rfl) (ztb_of k_467 rfl) s_Nr_length d_Ho_count_101 (Nat.le_of_ble_eq_true rfl) (Nat.le_of_ble_eq_true rfl) (Nat.le_of_ble_eq_true rfl) (Nat.le_of_ble_eq_true rfl) ((hs.pick 3 rfl).get (t := 0) rfl) (c_Nr_length (hs.pick 3 rfl) h2.1 (Nat.le_trans h2.2 (by decide)) ?_)
    refine zo_ireturn (i := i_Ho_count) (pc := 104) hq d_Ho_count_104 rfl (Nat.le_of_ble_eq_true rfl) (Nat.le_of_ble_eq_true rfl) ?_
    rw [h11] at k
    unfold cntT at k
    simp only [List.length_map] at k
    exact k
  · rw [h11]
    refine zo_tableIn (i := i_Ho_count) (pc := 11) (off := 94) (tgt := 105) d_Ho_count_11 (by decide) (by decide) rfl (by decide) ?_
    refine zo_aload_n (i := i_Ho_count) (pc := 105) d_Ho_count_105 rfl rfl ?_
    refine zo_get (i := i_Ho_count) (pc := 106) 9 6 rfl zok_Ho (Nat.le_of_ble_eq_true rfl) (ztb_of k_268 rfl) d_Ho_count_106 (fun _ _ _ h => h) (hs.get (t := 0) rfl) rfl ?_
    refine zc_VN0 (i := i_Ho_count) (pc := 109) 8 rfl m_Tr_length (ztb_of k_706 rfl) (ztb_of k_708 rfl) s_Tr_length d_Ho_count_109 (Nat.le_of_ble_eq_true rfl) (Nat.le_of_ble_eq_true rfl) (Nat.le_of_ble_eq_true rfl) (Nat.le_of_ble_eq_true rfl) ((hs.pick 6 rfl).get (t := 0) rfl) (c_Tr_length (hs.pick 6 rfl) h5.1 (Nat.le_trans h5.2 (by decide)) ?_)
    refine zo_ireturn (i := i_Ho_count) (pc := 112) hq d_Ho_count_112 rfl (Nat.le_of_ble_eq_true rfl) (Nat.le_of_ble_eq_true rfl) ?_
    rw [h11] at k
    unfold cntT at k
    simp only [List.length_map] at k
    exact k
  · rw [h11]
    refine zo_tableIn (i := i_Ho_count) (pc := 11) (off := 102) (tgt := 113) d_Ho_count_11 (by decide) (by decide) rfl (by decide) ?_
    refine zo_aload_n (i := i_Ho_count) (pc := 113) d_Ho_count_113 rfl rfl ?_
    refine zo_get (i := i_Ho_count) (pc := 114) 9 1 rfl zok_Ho (Nat.le_of_ble_eq_true rfl) (ztb_of k_263 rfl) d_Ho_count_114 (fun _ _ _ h => h) (hs.get (t := 0) rfl) rfl ?_
    refine zo_getN (i := i_Ho_count) (pc := 117) 4 5 rfl zok_Ou (Nat.le_of_ble_eq_true rfl) (ztb_of k_50 rfl) d_Ho_count_117 (fun _ _ _ h => h) ((hs.pick 1 rfl).get (t := 0) rfl) rfl ?_
    refine zo_ireturn (i := i_Ho_count) (pc := 120) hq d_Ho_count_120 rfl (Nat.le_of_ble_eq_true rfl) (Nat.le_of_ble_eq_true rfl) ?_
    rw [h11] at k
    unfold cntT at k
    exact k
  · rw [h11]
    refine zo_tableIn (i := i_Ho_count) (pc := 11) (off := 110) (tgt := 121) d_Ho_count_11 (by decide) (by decide) rfl (by decide) ?_
    refine zo_aload_n (i := i_Ho_count) (pc := 121) d_Ho_count_121 rfl rfl ?_
    refine zo_get (i := i_Ho_count) (pc := 122) 9 10 rfl zok_Ho (Nat.le_of_ble_eq_true rfl) (ztb_of k_272 rfl) d_Ho_count_122 (fun _ _ _ h => h) (hs.get (t := 0) rfl) rfl ?_
    refine zo_ireturn (i := i_Ho_count) (pc := 125) hq d_Ho_count_125 rfl (Nat.le_of_ble_eq_true rfl) (Nat.le_of_ble_eq_true rfl) ?_
    rw [h11] at k
    unfold cntT at k
    exact k
  · rw [h11]
    refine zo_tableIn (i := i_Ho_count) (pc := 11) (off := 115) (tgt := 126) d_Ho_count_11 (by decide) (by decide) rfl (by decide) ?_
    refine zo_aload_n (i := i_Ho_count) (pc := 126) d_Ho_count_126 rfl rfl ?_
    refine zo_get (i := i_Ho_count) (pc := 127) 9 11 rfl zok_Ho (Nat.le_of_ble_eq_true rfl) (ztb_of k_273 rfl) d_Ho_count_127 (fun _ _ _ h => h) (hs.get (t := 0) rfl) rfl ?_
    refine zo_ireturn (i := i_Ho_count) (pc := 130) hq d_Ho_count_130 rfl (Nat.le_of_ble_eq_true rfl) (Nat.le_of_ble_eq_true rfl) ?_
    rw [h11] at k
    unfold cntT at k
    exact k
  · rw [h11]
    refine zo_tableIn (i := i_Ho_count) (pc := 11) (off := 120) (tgt := 131) d_Ho_count_11 (by decide) (by decide) rfl (by decide) ?_
    refine zo_aload_n (i := i_Ho_count) (pc := 131) d_Ho_count_131 rfl rfl ?_
    refine zo_get (i := i_Ho_count) (pc := 132) 9 12 rfl zok_Ho (Nat.le_of_ble_eq_true rfl) (ztb_of k_274 rfl) d_Ho_count_132 (fun _ _ _ h => h) (hs.get (t := 0) rfl) rfl ?_
    refine zo_ireturn (i := i_Ho_count) (pc := 135) hq d_Ho_count_135 rfl (Nat.le_of_ble_eq_true rfl) (Nat.le_of_ble_eq_true rfl) ?_
    rw [h11] at k
    unfold cntT at k
    exact k
  · rw [h11]
    refine zo_tableIn (i := i_Ho_count) (pc := 11) (off := 125) (tgt := 136) d_Ho_count_11 (by decide) (by decide) rfl (by decide) ?_
    refine zo_aload_n (i := i_Ho_count) (pc := 136) d_Ho_count_136 rfl rfl ?_
    refine zo_get (i := i_Ho_count) (pc := 137) 9 9 rfl zok_Ho (Nat.le_of_ble_eq_true rfl) (ztb_of k_271 rfl) d_Ho_count_137 (fun _ _ _ h => h) (hs.get (t := 0) rfl) rfl ?_
    refine zo_ireturn (i := i_Ho_count) (pc := 140) hq d_Ho_count_140 rfl (Nat.le_of_ble_eq_true rfl) (Nat.le_of_ble_eq_true rfl) ?_
    rw [h11] at k
    unfold cntT at k
    exact k
  · refine zo_tableOut (i := i_Ho_count) (pc := 11) (tgt := 141) d_Ho_count_11 h11 (by decide) ?_
    refine zo_aload_n (i := i_Ho_count) (pc := 141) d_Ho_count_141 rfl rfl ?_
    refine zo_get (i := i_Ho_count) (pc := 142) 9 13 rfl zok_Ho (Nat.le_of_ble_eq_true rfl) (ztb_of k_275 rfl) d_Ho_count_142 (fun _ _ _ h => h) (hs.get (t := 0) rfl) rfl ?_
    refine zo_if_eq (i := i_Ho_count) (pc := 145) (tgt := 152) d_Ho_count_145 (by decide) (fun h145 => ?_) (fun h145 => ?_)
    · refine zo_iconst (i := i_Ho_count) (pc := 152) (v := 0) d_Ho_count_152 (by decide) ?_
      refine zo_ireturn (i := i_Ho_count) (pc := 153) hq d_Ho_count_153 rfl (Nat.le_of_ble_eq_true rfl) (Nat.le_of_ble_eq_true rfl) ?_
      obtain ⟨n0, n1, n2, n3, n4, n5, n6, n7, n8, n9, n10⟩ := zout10 h11
      unfold cntT at k
      rw [if_neg n0, if_neg n1, if_neg n2, if_neg n3, if_neg n4, if_neg n5, if_neg n6, if_neg n7, if_neg n8, if_neg n9, if_neg n10] at k
      replace k : post (some (.int (zb s.2.2.2.2.2.2))) ws := k
      rw [show zb s.2.2.2.2.2.2 = 0 from h145] at k
      exact k
    · refine zo_iconst (i := i_Ho_count) (pc := 148) (v := 1) d_Ho_count_148 (by decide) ?_
      refine zo_goto (i := i_Ho_count) (pc := 149) (tgt := 153) d_Ho_count_149 (by decide) ?_
      refine zo_ireturn (i := i_Ho_count) (pc := 153) hq d_Ho_count_153 rfl (Nat.le_of_ble_eq_true rfl) (Nat.le_of_ble_eq_true rfl) ?_
      obtain ⟨n0, n1, n2, n3, n4, n5, n6, n7, n8, n9, n10⟩ := zout10 h11
      unfold cntT at k
      rw [if_neg n0, if_neg n1, if_neg n2, if_neg n3, if_neg n4, if_neg n5, if_neg n6, if_neg n7, if_neg n8, if_neg n9, if_neg n10] at k
      replace k : post (some (.int (zb s.2.2.2.2.2.2))) ws := k
      rw [zb_0, Bool.not_eq_false] at h145
      rw [h145] at k
      exact k
