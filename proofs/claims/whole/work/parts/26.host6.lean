/-! The host: picking a router, looking at headers (walks by a program, gen26.py). -/
section ZHost7
theorem zout6 {k : Int32} (h : k.toInt < 1 ∨ 6 < k.toInt) : ¬ k = 1 ∧ ¬ k = 2 ∧ ¬ k = 3 ∧ ¬ k = 4 ∧ ¬ k = 5 ∧ ¬ k = 6 := by
  refine ⟨?_, ?_, ?_, ?_, ?_, ?_⟩ <;> (intro e; subst e; revert h; decide)
theorem faultT_hd (q : hT) (i f fr : Int32) (gr : Bool) : (faultT q i f fr gr).2.2.2.2.2.2.2 = q.2.2.2.2.2.2.2 := by
  unfold faultT
  by_cases h : (gr = false ∨ f = 2) ∧ ¬ fr = 0 ∧ ¬ q.1.2.2.2.2.2.1 ≤ 0
  · rw [if_pos h]; rfl
  · rw [if_neg h]
theorem goT_hd (q : hT) (i : Nat) (fr : Int32) (gr : Bool) : (goT q i fr gr).2.2.2.2.2.2.2.2 = q.2.2.2.2.2.2.2 := by
  unfold goT
  simp only
  repeat' split
  all_goals first | rfl | exact faultT_hd _ _ _ _ _
def lookT (q : hT) (fr : Int32) (gr : Bool) : Nat → Nat → Int32 × hT
  | 0, _ => (nI q.2.2.2.2.2.2.2.1, q)
  | n + 1, i => if (goT q i fr gr).1 then lookT (goT q i fr gr).2 fr gr n (i + 1) else (nI i + 1, (goT q i fr gr).2)
end ZHost7
theorem c_Ho_pickRouter {g : zG} {ws : va_W} {post : Option Value → va_W → Prop} {A : Nat → Nat} {q : hT} {R : va_W} (h : hH g A q R ws) (k : post (some (.int (hopT q.2.2.2.2.1 q.2.2.2.1))) ws) : zC g i_Ho_pickRouter [.ref (A 0)] ws post := by
  refine zC.intro (by decide +kernel) rfl (Nat.le_of_ble_eq_true rfl) fun x0 hq => ?_
  obtain ⟨s, u, lo, ln, lr, lp, la, hd⟩ := q
  obtain ⟨ow, nb, ro, pf, pa, h1, h2, h3, h4, h5, rfl, rfl, rfl, rfl, rfl, h6, hs⟩ := h
  replace hs : zHas ws (hL g A s u ow nb ro pf pa hd R).flatten := hs
  have hl3 := h3.2
  have hfs := find_snd (routeP (nb.2.map Prod.snd)) ro.2
  unfold hopT at k
  have loop : ∀ (n i : Nat) (o : Option Value), i + n = ro.2.length → (∀ y ∈ ro.2.take i, (routeP (nb.2.map Prod.snd)) y.2 = false) → zW x0 g i_Ho_pickRouter 2 [some (.ref (A 0)), some (.int (nI i)), o] [] ws 0 0 := by
    intro n
    induction n with
    | zero =>
      intro i o hi hno
      rw [hfs, zfind_no hno (by omega)] at k
      refine zo_iload_n (i := i_Ho_pickRouter) (pc := 2) d_Ho_pickRouter_2 rfl ?_
      refine zo_aload_n (i := i_Ho_pickRouter) (pc := 3) d_Ho_pickRouter_3 rfl rfl ?_
      refine zo_get (i := i_Ho_pickRouter) (pc := 4) 9 4 rfl zok_Ho (Nat.le_of_ble_eq_true rfl) (ztb_of k_266 rfl) d_Ho_pickRouter_4 (fun _ _ _ h => h) (hs.get (t := 0) rfl) rfl ?_
      refine zc_VN0 (i := i_Ho_pickRouter) (pc := 7) 8 rfl m_Tr_length (ztb_of k_706 rfl) (ztb_of k_708 rfl) s_Tr_length d_Ho_pickRouter_7 (Nat.le_of_ble_eq_true rfl) (Nat.le_of_ble_eq_true rfl) (Nat.le_of_ble_eq_true rfl) (Nat.le_of_ble_eq_true rfl) ((hs.pick 4 rfl).get (t := 0) rfl) (c_Tr_length (hs.pick 4 rfl) h3.1 (Nat.le_trans h3.2 (by decide)) ?_)
      refine zo_icmp_ge (i := i_Ho_pickRouter) (pc := 10) (tgt := 55) d_Ho_pickRouter_10 (by decide) (fun h10 => ?_) (fun h10 => False.elim (by first | exact absurd h10 (nI_le (by omega) (by omega)) | exact absurd (nI_le (by omega) (by omega)) h10))
      refine zo_aload_n (i := i_Ho_pickRouter) (pc := 55) d_Ho_pickRouter_55 rfl rfl ?_
      refine zo_get (i := i_Ho_pickRouter) (pc := 56) 9 4 rfl zok_Ho (Nat.le_of_ble_eq_true rfl) (ztb_of k_266 rfl) d_Ho_pickRouter_56 (fun _ _ _ h => h) (hs.get (t := 0) rfl) rfl ?_
      refine zc_VN0 (i := i_Ho_pickRouter) (pc := 59) 8 rfl m_Tr_length (ztb_of k_706 rfl) (ztb_of k_708 rfl) s_Tr_length d_Ho_pickRouter_59 (Nat.le_of_ble_eq_true rfl) (Nat.le_of_ble_eq_true rfl) (Nat.le_of_ble_eq_true rfl) (Nat.le_of_ble_eq_true rfl) ((hs.pick 4 rfl).get (t := 0) rfl) (c_Tr_length (hs.pick 4 rfl) h3.1 (Nat.le_trans h3.2 (by decide)) ?_)
      refine zo_if_ne (i := i_Ho_pickRouter) (pc := 62) (tgt := 69) d_Ho_pickRouter_62 (by decide) (fun h62 => ?_) (fun h62 => ?_)
      · have hpos : 0 < ro.2.length := Nat.pos_of_ne_zero fun q => h62 (by rw [q]; rfl)
        obtain ⟨e, he⟩ := zidx (els := ro.2) (i := 0) hpos
        refine zo_aload_n (i := i_Ho_pickRouter) (pc := 69) d_Ho_pickRouter_69 rfl rfl ?_
        refine zo_get (i := i_Ho_pickRouter) (pc := 70) 9 4 rfl zok_Ho (Nat.le_of_ble_eq_true rfl) (ztb_of k_266 rfl) d_Ho_pickRouter_70 (fun _ _ _ h => h) (hs.get (t := 0) rfl) rfl ?_
        refine zo_iconst (i := i_Ho_pickRouter) (pc := 73) (v := 0) d_Ho_pickRouter_73 (by decide) ?_
        refine zc_VN1 (i := i_Ho_pickRouter) (pc := 74) 8 rfl m_Tr_at (ztb_of k_710 rfl) (ztb_of k_712 rfl) s_Tr_at d_Ho_pickRouter_74 (Nat.le_of_ble_eq_true rfl) (Nat.le_of_ble_eq_true rfl) (Nat.le_of_ble_eq_true rfl) (Nat.le_of_ble_eq_true rfl) ((hs.pick 4 rfl).get (t := 0) rfl) (c_Tr_at (j := 0) (hs.pick 4 rfl) h3.1 (Nat.le_trans h3.2 (by decide)) he ?_)
        refine zo_getN (i := i_Ho_pickRouter) (pc := 77) 7 0 rfl zok_Ti (Nat.le_of_ble_eq_true rfl) (ztb_of k_608 rfl) d_Ho_pickRouter_77 (fun _ _ _ h => h) (rw_el (hs.pick 4 rfl) he) rfl ?_
        refine zo_ireturn (i := i_Ho_pickRouter) (pc := 80) hq d_Ho_pickRouter_80 rfl (Nat.le_of_ble_eq_true rfl) (Nat.le_of_ble_eq_true rfl) ?_
        obtain ⟨r0, rs, hr⟩ : ∃ r0 rs, ro.2 = r0 :: rs := by
          cases hro : ro.2 with
          | nil => rw [hro] at hpos; exact absurd hpos (by decide)
          | cons a b => exact ⟨a, b, rfl⟩
        rw [hr] at he k
        cases he
        exact k
      · refine zo_iconst (i := i_Ho_pickRouter) (pc := 65) (v := 0) d_Ho_pickRouter_65 (by decide) ?_
        refine zo_goto (i := i_Ho_pickRouter) (pc := 66) (tgt := 80) d_Ho_pickRouter_66 (by decide) ?_
        refine zo_ireturn (i := i_Ho_pickRouter) (pc := 80) hq d_Ho_pickRouter_80 rfl (Nat.le_of_ble_eq_true rfl) (Nat.le_of_ble_eq_true rfl) ?_
        have h0 : ro.2 = [] := List.length_eq_zero_iff.mp ((nI_eq (by omega) (by decide)).mp h62)
        rw [h0] at k
        exact k
    | succ n ih =>
      intro i o hi hno
      obtain ⟨e, he⟩ := zidx (els := ro.2) (i := i) (by omega)
      have hf2 := find_snd (fun x : zND => decide (x.1 = e.2.1)) nb.2
      cases hf : nb.2.find? (fun x => decide (x.2.1 = e.2.1)) with
      | none =>
        refine zo_iload_n (i := i_Ho_pickRouter) (pc := 2) d_Ho_pickRouter_2 rfl ?_
        refine zo_aload_n (i := i_Ho_pickRouter) (pc := 3) d_Ho_pickRouter_3 rfl rfl ?_
        refine zo_get (i := i_Ho_pickRouter) (pc := 4) 9 4 rfl zok_Ho (Nat.le_of_ble_eq_true rfl) (ztb_of k_266 rfl) d_Ho_pickRouter_4 (fun _ _ _ h => h) (hs.get (t := 0) rfl) rfl ?_
        refine zc_VN0 (i := i_Ho_pickRouter) (pc := 7) 8 rfl m_Tr_length (ztb_of k_706 rfl) (ztb_of k_708 rfl) s_Tr_length d_Ho_pickRouter_7 (Nat.le_of_ble_eq_true rfl) (Nat.le_of_ble_eq_true rfl) (Nat.le_of_ble_eq_true rfl) (Nat.le_of_ble_eq_true rfl) ((hs.pick 4 rfl).get (t := 0) rfl) (c_Tr_length (hs.pick 4 rfl) h3.1 (Nat.le_trans h3.2 (by decide)) ?_)
        refine zo_icmp_ge (i := i_Ho_pickRouter) (pc := 10) (tgt := 55) d_Ho_pickRouter_10 (by decide) (fun h10 => False.elim (by first | exact absurd h10 (nI_ge (by omega) (by omega)) | exact absurd (nI_ge (by omega) (by omega)) h10)) (fun h10 => ?_)
        refine zo_aload_n (i := i_Ho_pickRouter) (pc := 13) d_Ho_pickRouter_13 rfl rfl ?_
        refine zo_get (i := i_Ho_pickRouter) (pc := 14) 9 3 rfl zok_Ho (Nat.le_of_ble_eq_true rfl) (ztb_of k_265 rfl) d_Ho_pickRouter_14 (fun _ _ _ h => h) (hs.get (t := 0) rfl) rfl ?_
        refine zo_aload_n (i := i_Ho_pickRouter) (pc := 17) d_Ho_pickRouter_17 rfl rfl ?_
        refine zo_get (i := i_Ho_pickRouter) (pc := 18) 9 4 rfl zok_Ho (Nat.le_of_ble_eq_true rfl) (ztb_of k_266 rfl) d_Ho_pickRouter_18 (fun _ _ _ h => h) (hs.get (t := 0) rfl) rfl ?_
        refine zo_iload_n (i := i_Ho_pickRouter) (pc := 21) d_Ho_pickRouter_21 rfl ?_
        refine zc_VN1 (i := i_Ho_pickRouter) (pc := 22) 8 rfl m_Tr_at (ztb_of k_710 rfl) (ztb_of k_712 rfl) s_Tr_at d_Ho_pickRouter_22 (Nat.le_of_ble_eq_true rfl) (Nat.le_of_ble_eq_true rfl) (Nat.le_of_ble_eq_true rfl) (Nat.le_of_ble_eq_true rfl) ((hs.pick 4 rfl).get (t := 0) rfl) (c_Tr_at (hs.pick 4 rfl) h3.1 (Nat.le_trans h3.2 (by decide)) he ?_)
        refine zo_getN (i := i_Ho_pickRouter) (pc := 25) 7 0 rfl zok_Ti (Nat.le_of_ble_eq_true rfl) (ztb_of k_608 rfl) d_Ho_pickRouter_25 (fun _ _ _ h => h) (rw_el (hs.pick 4 rfl) he) rfl ?_
        refine zc_VN1 (i := i_Ho_pickRouter) (pc := 28) 3 rfl m_Nr_find (ztb_of k_309 rfl) (ztb_of k_311 rfl) s_Nr_find d_Ho_pickRouter_28 (Nat.le_of_ble_eq_true rfl) (Nat.le_of_ble_eq_true rfl) (Nat.le_of_ble_eq_true rfl) (Nat.le_of_ble_eq_true rfl) ((hs.pick 3 rfl).get (t := 0) rfl) (c_Nr_find (hs.pick 3 rfl) h2.1 (Nat.le_trans h2.2 (by decide)) ?_)
        rw [hf]
        refine zo_astore_n (i := i_Ho_pickRouter) (pc := 31) d_Ho_pickRouter_31 rfl (Nat.le_of_ble_eq_true rfl) ?_
        refine zo_aload_n (i := i_Ho_pickRouter) (pc := 32) d_Ho_pickRouter_32 rfl rfl ?_
        refine zo_ifnull (i := i_Ho_pickRouter) (pc := 33) (tgt := 49) d_Ho_pickRouter_33 (by decide) rfl (fun h33 => ?_) (fun h33 => False.elim (by first | exact absurd h33 ((by rintro ⟨_, q⟩; cases q)) | exact absurd ((by rintro ⟨_, q⟩; cases q)) h33))
        refine zo_iinc (i := i_Ho_pickRouter) (pc := 49) (v := nI (i + 1)) d_Ho_pickRouter_49 rfl (nI_inc i) (Nat.le_of_ble_eq_true rfl) ?_
        refine zo_goto (i := i_Ho_pickRouter) (pc := 52) (tgt := 2) d_Ho_pickRouter_52 (by decide) ?_
        refine ih (i + 1) _ (by omega) (ztake_succ (p := fun y : Nat × zTD => (routeP (nb.2.map Prod.snd)) y.2) hno he ?_)
        show routeP (nb.2.map Prod.snd) e.2 = false
        unfold routeP
        rw [hf2, hf]
        rfl
      | some e2 =>
        obtain ⟨j2, hj2, hp2, -⟩ := zfind_idx hf
        have hse := rw_el (hs.pick 3 rfl) hj2
        have hk2 : e2.2.1 = e.2.1 := of_decide_eq_true hp2
        refine zo_iload_n (i := i_Ho_pickRouter) (pc := 2) d_Ho_pickRouter_2 rfl ?_
        refine zo_aload_n (i := i_Ho_pickRouter) (pc := 3) d_Ho_pickRouter_3 rfl rfl ?_
        refine zo_get (i := i_Ho_pickRouter) (pc := 4) 9 4 rfl zok_Ho (Nat.le_of_ble_eq_true rfl) (ztb_of k_266 rfl) d_Ho_pickRouter_4 (fun _ _ _ h => h) (hs.get (t := 0) rfl) rfl ?_
        refine zc_VN0 (i := i_Ho_pickRouter) (pc := 7) 8 rfl m_Tr_length (ztb_of k_706 rfl) (ztb_of k_708 rfl) s_Tr_length d_Ho_pickRouter_7 (Nat.le_of_ble_eq_true rfl) (Nat.le_of_ble_eq_true rfl) (Nat.le_of_ble_eq_true rfl) (Nat.le_of_ble_eq_true rfl) ((hs.pick 4 rfl).get (t := 0) rfl) (c_Tr_length (hs.pick 4 rfl) h3.1 (Nat.le_trans h3.2 (by decide)) ?_)
        refine zo_icmp_ge (i := i_Ho_pickRouter) (pc := 10) (tgt := 55) d_Ho_pickRouter_10 (by decide) (fun h10 => False.elim (by first | exact absurd h10 (nI_ge (by omega) (by omega)) | exact absurd (nI_ge (by omega) (by omega)) h10)) (fun h10 => ?_)
        refine zo_aload_n (i := i_Ho_pickRouter) (pc := 13) d_Ho_pickRouter_13 rfl rfl ?_
        refine zo_get (i := i_Ho_pickRouter) (pc := 14) 9 3 rfl zok_Ho (Nat.le_of_ble_eq_true rfl) (ztb_of k_265 rfl) d_Ho_pickRouter_14 (fun _ _ _ h => h) (hs.get (t := 0) rfl) rfl ?_
        refine zo_aload_n (i := i_Ho_pickRouter) (pc := 17) d_Ho_pickRouter_17 rfl rfl ?_
        refine zo_get (i := i_Ho_pickRouter) (pc := 18) 9 4 rfl zok_Ho (Nat.le_of_ble_eq_true rfl) (ztb_of k_266 rfl) d_Ho_pickRouter_18 (fun _ _ _ h => h) (hs.get (t := 0) rfl) rfl ?_
        refine zo_iload_n (i := i_Ho_pickRouter) (pc := 21) d_Ho_pickRouter_21 rfl ?_
        refine zc_VN1 (i := i_Ho_pickRouter) (pc := 22) 8 rfl m_Tr_at (ztb_of k_710 rfl) (ztb_of k_712 rfl) s_Tr_at d_Ho_pickRouter_22 (Nat.le_of_ble_eq_true rfl) (Nat.le_of_ble_eq_true rfl) (Nat.le_of_ble_eq_true rfl) (Nat.le_of_ble_eq_true rfl) ((hs.pick 4 rfl).get (t := 0) rfl) (c_Tr_at (hs.pick 4 rfl) h3.1 (Nat.le_trans h3.2 (by decide)) he ?_)
        refine zo_getN (i := i_Ho_pickRouter) (pc := 25) 7 0 rfl zok_Ti (Nat.le_of_ble_eq_true rfl) (ztb_of k_608 rfl) d_Ho_pickRouter_25 (fun _ _ _ h => h) (rw_el (hs.pick 4 rfl) he) rfl ?_
        refine zc_VN1 (i := i_Ho_pickRouter) (pc := 28) 3 rfl m_Nr_find (ztb_of k_309 rfl) (ztb_of k_311 rfl) s_Nr_find d_Ho_pickRouter_28 (Nat.le_of_ble_eq_true rfl) (Nat.le_of_ble_eq_true rfl) (Nat.le_of_ble_eq_true rfl) (Nat.le_of_ble_eq_true rfl) ((hs.pick 3 rfl).get (t := 0) rfl) (c_Nr_find (hs.pick 3 rfl) h2.1 (Nat.le_trans h2.2 (by decide)) ?_)
        rw [hf]
        refine zo_astore_n (i := i_Ho_pickRouter) (pc := 31) d_Ho_pickRouter_31 rfl (Nat.le_of_ble_eq_true rfl) ?_
        refine zo_aload_n (i := i_Ho_pickRouter) (pc := 32) d_Ho_pickRouter_32 rfl rfl ?_
        refine zo_ifnull (i := i_Ho_pickRouter) (pc := 33) (tgt := 49) d_Ho_pickRouter_33 (by decide) rfl (fun h33 => False.elim (by first | exact absurd h33 ((by intro q; cases q)) | exact absurd ((by intro q; cases q)) h33)) (fun h33 => ?_)
        refine zo_aload_n (i := i_Ho_pickRouter) (pc := 36) d_Ho_pickRouter_36 rfl rfl ?_
        refine zo_getN (i := i_Ho_pickRouter) (pc := 37) 2 2 rfl zok_Ne (Nat.le_of_ble_eq_true rfl) (ztb_of k_550 rfl) d_Ho_pickRouter_37 (fun _ _ _ h => h) hse rfl ?_
        refine zo_iconst (i := i_Ho_pickRouter) (pc := 40) (v := 1) d_Ho_pickRouter_40 (by decide) ?_
        refine zo_icmp_eq (i := i_Ho_pickRouter) (pc := 41) (tgt := 49) d_Ho_pickRouter_41 (by decide) (fun h41 => ?_) (fun h41 => ?_)
        · refine zo_iinc (i := i_Ho_pickRouter) (pc := 49) (v := nI (i + 1)) d_Ho_pickRouter_49 rfl (nI_inc i) (Nat.le_of_ble_eq_true rfl) ?_
          refine zo_goto (i := i_Ho_pickRouter) (pc := 52) (tgt := 2) d_Ho_pickRouter_52 (by decide) ?_
          refine ih (i + 1) _ (by omega) (ztake_succ (p := fun y : Nat × zTD => (routeP (nb.2.map Prod.snd)) y.2) hno he ?_)
          show routeP (nb.2.map Prod.snd) e.2 = false
          unfold routeP
          rw [hf2, hf]
          show (!decide (e2.2.2.2.1 = 1)) = false
          rw [decide_eq_true h41]
          rfl
        · refine zo_aload_n (i := i_Ho_pickRouter) (pc := 44) d_Ho_pickRouter_44 rfl rfl ?_
          refine zo_getN (i := i_Ho_pickRouter) (pc := 45) 2 0 rfl zok_Ne (Nat.le_of_ble_eq_true rfl) (ztb_of k_546 rfl) d_Ho_pickRouter_45 (fun _ _ _ h => h) hse rfl ?_
          refine zo_ireturn (i := i_Ho_pickRouter) (pc := 48) hq d_Ho_pickRouter_48 rfl (Nat.le_of_ble_eq_true rfl) (Nat.le_of_ble_eq_true rfl) ?_
          rw [hfs, zfind_at (p := fun y : Nat × zTD => (routeP (nb.2.map Prod.snd)) y.2) hno he ?_] at k
          · rw [hk2]
            exact k
          · show routeP (nb.2.map Prod.snd) e.2 = true
            unfold routeP
            rw [hf2, hf]
            show (!decide (e2.2.2.2.1 = 1)) = true
            rw [decide_eq_false h41]
            rfl
  refine zo_iconst (i := i_Ho_pickRouter) (pc := 0) (v := 0) d_Ho_pickRouter_0 (by decide) ?_
  refine zo_istore_n (i := i_Ho_pickRouter) (pc := 1) d_Ho_pickRouter_1 (Nat.le_of_ble_eq_true rfl) ?_
  exact loop ro.2.length 0 none (by omega) (fun y hy => by simp at hy)
theorem c_Ho_goesOn {g : zG} {ws : va_W} {post : Option Value → va_W → Prop} {A : Nat → Nat} {q : hT} {R : va_W} (h : hH g A q R ws) {i : Nat} {fr : Int32} {gr : Bool} (hi : i < q.2.2.2.2.2.2.2.1) (k : ∀ w, hH g A (goT q i fr gr).2 R w → post (some (.int (zb (goT q i fr gr).1))) w) : zC g i_Ho_goesOn [.ref (A 0), .int (nI i), .int fr, .int (zb gr)] ws post := by
  refine zC.intro (by decide +kernel) rfl (Nat.le_of_ble_eq_true rfl) fun x0 hq => ?_
  have h0 := h
  obtain ⟨s, u, lo, ln, lr, lp, la, hd⟩ := q
  obtain ⟨ow, nb, ro, pf, pa, h1, h2, h3, h4, h5, rfl, rfl, rfl, rfl, rfl, h6, hs⟩ := h
  replace hs : zHas ws (hL g A s u ow nb ro pf pa hd R).flatten := hs
  have hi : i < hd.1 := hi
  have h6 : hd.1 ≤ 6 := h6
  refine zo_aload_n (i := i_Ho_goesOn) (pc := 0) d_Ho_goesOn_0 rfl rfl ?_
  refine zo_get (i := i_Ho_goesOn) (pc := 1) 9 7 rfl zok_Ho (Nat.le_of_ble_eq_true rfl) (ztb_of k_269 rfl) d_Ho_goesOn_1 (fun _ _ _ h => h) (hs.get (t := 0) rfl) rfl ?_
  refine zo_getN (i := i_Ho_goesOn) (pc := 4) 1 0 rfl zok_Hd (Nat.le_of_ble_eq_true rfl) (ztb_of k_135 rfl) d_Ho_goesOn_4 (fun _ _ _ h => h) ((hs.pick 7 rfl).get (t := 0) rfl) rfl ?_
  refine zo_iload_n (i := i_Ho_goesOn) (pc := 7) d_Ho_goesOn_7 rfl ?_
  refine zo_iaload (i := i_Ho_goesOn) (pc := 8) d_Ho_goesOn_8 ((hs.pick 7 rfl).get (t := 1) rfl) (vp_in_nI (by omega) (by decide)) ?_
  rw [nI_clamp (by omega)]
  refine zo_istore (i := i_Ho_goesOn) (pc := 9) d_Ho_goesOn_9 (Nat.le_of_ble_eq_true rfl) ?_
  refine zo_aload_n (i := i_Ho_goesOn) (pc := 11) d_Ho_goesOn_11 rfl rfl ?_
  refine zo_get (i := i_Ho_goesOn) (pc := 12) 9 7 rfl zok_Ho (Nat.le_of_ble_eq_true rfl) (ztb_of k_269 rfl) d_Ho_goesOn_12 (fun _ _ _ h => h) (hs.get (t := 0) rfl) rfl ?_
  refine zo_getN (i := i_Ho_goesOn) (pc := 15) 1 1 rfl zok_Hd (Nat.le_of_ble_eq_true rfl) (ztb_of k_137 rfl) d_Ho_goesOn_15 (fun _ _ _ h => h) ((hs.pick 7 rfl).get (t := 0) rfl) rfl ?_
  refine zo_iload_n (i := i_Ho_goesOn) (pc := 18) d_Ho_goesOn_18 rfl ?_
  refine zo_iaload (i := i_Ho_goesOn) (pc := 19) d_Ho_goesOn_19 ((hs.pick 7 rfl).get (t := 2) rfl) (vp_in_nI (by omega) (by decide)) ?_
  rw [nI_clamp (by omega)]
  refine zo_istore (i := i_Ho_goesOn) (pc := 20) d_Ho_goesOn_20 (Nat.le_of_ble_eq_true rfl) ?_
  refine zo_iload (i := i_Ho_goesOn) (pc := 22) d_Ho_goesOn_22 rfl ?_
  refine zo_if_ne (i := i_Ho_goesOn) (pc := 24) (tgt := 35) d_Ho_goesOn_24 (by decide) (fun hA0 => ?_) (fun hA0 => ?_)
  · refine zo_iload (i := i_Ho_goesOn) (pc := 35) d_Ho_goesOn_35 rfl ?_
    
    rcases zsw_1_6 (hd.2.1 i) with hK | hK | hK | hK | hK | hK | hK
    · rw [hK]
      refine zo_tableIn (i := i_Ho_goesOn) (pc := 37) (off := 39) (tgt := 76) d_Ho_goesOn_37 (by decide) (by decide) rfl (by decide) ?_
      refine zo_iload (i := i_Ho_goesOn) (pc := 76) d_Ho_goesOn_76 rfl ?_
      refine zo_iconst (i := i_Ho_goesOn) (pc := 78) (v := 2) d_Ho_goesOn_78 (by decide) ?_
      refine zo_icmp_eq (i := i_Ho_goesOn) (pc := 79) (tgt := 92) d_Ho_goesOn_79 (by decide) (fun h79 => ?_) (fun h79 => ?_)
      · refine zo_aload_n (i := i_Ho_goesOn) (pc := 92) d_Ho_goesOn_92 rfl rfl ?_
        refine zo_iload_n (i := i_Ho_goesOn) (pc := 93) d_Ho_goesOn_93 rfl ?_
        refine zo_iconst (i := i_Ho_goesOn) (pc := 94) (v := 2) d_Ho_goesOn_94 (by decide) ?_
        refine zo_iload_n (i := i_Ho_goesOn) (pc := 95) d_Ho_goesOn_95 rfl ?_
        refine zo_iload_n (i := i_Ho_goesOn) (pc := 96) d_Ho_goesOn_96 rfl ?_
        refine zc_V4 (i := i_Ho_goesOn) (pc := 97) 9 rfl m_Ho_answerFault (ztb_of k_760 rfl) (ztb_of k_762 rfl) s_Ho_answerFault d_Ho_goesOn_97 (Nat.le_of_ble_eq_true rfl) (Nat.le_of_ble_eq_true rfl) (Nat.le_of_ble_eq_true rfl) (Nat.le_of_ble_eq_true rfl) (hs.get (t := 0) rfl) (c_Ho_answerFault h0 fun ws hF => ?_)
        refine zo_iload (i := i_Ho_goesOn) (pc := 100) d_Ho_goesOn_100 rfl ?_
        refine zo_if_ne (i := i_Ho_goesOn) (pc := 102) (tgt := 109) d_Ho_goesOn_102 (by decide) (fun h102 => ?_) (fun h102 => False.elim (by first | exact absurd h102 (by rw [h79]; decide) | exact absurd (by rw [h79]; decide) h102))
        refine zo_iconst (i := i_Ho_goesOn) (pc := 109) (v := 0) d_Ho_goesOn_109 (by decide) ?_
        refine zo_zreturn (i := i_Ho_goesOn) (pc := 110) hq d_Ho_goesOn_110 rfl rfl (Nat.le_of_ble_eq_true rfl) (Nat.le_of_ble_eq_true rfl) ?_
        have ek : hkind (s, u, ow.2.map Prod.snd, nb.2.map Prod.snd, ro.2.map Prod.snd, pf.2.map Prod.snd, pa.2.map Prod.snd, hd) i = hd.2.1 i := by
          unfold hkind
          exact if_neg (fun q => hA0 q.1)
        have eg : goT (s, u, ow.2.map Prod.snd, nb.2.map Prod.snd, ro.2.map Prod.snd, pf.2.map Prod.snd, pa.2.map Prod.snd, hd) i fr gr = (false, faultT (s, u, ow.2.map Prod.snd, nb.2.map Prod.snd, ro.2.map Prod.snd, pf.2.map Prod.snd, pa.2.map Prod.snd, hd) (nI i) 2 fr gr) := by
          unfold goT
          rw [ek]
          simp [hA0, hK, h79, h102]
        rw [eg] at k
        exact k ws hF
      · refine zo_iload (i := i_Ho_goesOn) (pc := 82) d_Ho_goesOn_82 rfl ?_
        refine zo_iconst (i := i_Ho_goesOn) (pc := 84) (v := 3) d_Ho_goesOn_84 (by decide) ?_
        refine zo_icmp_ne (i := i_Ho_goesOn) (pc := 85) (tgt := 100) d_Ho_goesOn_85 (by decide) (fun h85 => ?_) (fun h85 => ?_)
        · refine zo_iload (i := i_Ho_goesOn) (pc := 100) d_Ho_goesOn_100 rfl ?_
          refine zo_if_ne (i := i_Ho_goesOn) (pc := 102) (tgt := 109) d_Ho_goesOn_102 (by decide) (fun h102 => ?_) (fun h102 => ?_)
          · refine zo_iconst (i := i_Ho_goesOn) (pc := 109) (v := 0) d_Ho_goesOn_109 (by decide) ?_
            refine zo_zreturn (i := i_Ho_goesOn) (pc := 110) hq d_Ho_goesOn_110 rfl rfl (Nat.le_of_ble_eq_true rfl) (Nat.le_of_ble_eq_true rfl) ?_
            have ek : hkind (s, u, ow.2.map Prod.snd, nb.2.map Prod.snd, ro.2.map Prod.snd, pf.2.map Prod.snd, pa.2.map Prod.snd, hd) i = hd.2.1 i := by
              unfold hkind
              exact if_neg (fun q => hA0 q.1)
            have eg : goT (s, u, ow.2.map Prod.snd, nb.2.map Prod.snd, ro.2.map Prod.snd, pf.2.map Prod.snd, pa.2.map Prod.snd, hd) i fr gr = (false, (s, u, ow.2.map Prod.snd, nb.2.map Prod.snd, ro.2.map Prod.snd, pf.2.map Prod.snd, pa.2.map Prod.snd, hd)) := by
              unfold goT
              rw [ek]
              simp [hA0, hK, h79, h85, h102]
            rw [eg] at k
            exact k ws ⟨_, _, _, _, _, h1, h2, h3, h4, h5, rfl, rfl, rfl, rfl, rfl, h6, hs⟩
          · refine zo_iconst (i := i_Ho_goesOn) (pc := 105) (v := 1) d_Ho_goesOn_105 (by decide) ?_
            refine zo_goto (i := i_Ho_goesOn) (pc := 106) (tgt := 110) d_Ho_goesOn_106 (by decide) ?_
            refine zo_zreturn (i := i_Ho_goesOn) (pc := 110) hq d_Ho_goesOn_110 rfl rfl (Nat.le_of_ble_eq_true rfl) (Nat.le_of_ble_eq_true rfl) ?_
            have ek : hkind (s, u, ow.2.map Prod.snd, nb.2.map Prod.snd, ro.2.map Prod.snd, pf.2.map Prod.snd, pa.2.map Prod.snd, hd) i = hd.2.1 i := by
              unfold hkind
              exact if_neg (fun q => hA0 q.1)
            have eg : goT (s, u, ow.2.map Prod.snd, nb.2.map Prod.snd, ro.2.map Prod.snd, pf.2.map Prod.snd, pa.2.map Prod.snd, hd) i fr gr = (true, (s, u, ow.2.map Prod.snd, nb.2.map Prod.snd, ro.2.map Prod.snd, pf.2.map Prod.snd, pa.2.map Prod.snd, hd)) := by
              unfold goT
              rw [ek]
              simp [hA0, hK, h79, h85, h102]
            rw [eg] at k
            exact k ws ⟨_, _, _, _, _, h1, h2, h3, h4, h5, rfl, rfl, rfl, rfl, rfl, h6, hs⟩
        · refine zo_iload_n (i := i_Ho_goesOn) (pc := 88) d_Ho_goesOn_88 rfl ?_
          refine zo_if_ne (i := i_Ho_goesOn) (pc := 89) (tgt := 100) d_Ho_goesOn_89 (by decide) (fun h89 => ?_) (fun h89 => ?_)
          · refine zo_iload (i := i_Ho_goesOn) (pc := 100) d_Ho_goesOn_100 rfl ?_
            refine zo_if_ne (i := i_Ho_goesOn) (pc := 102) (tgt := 109) d_Ho_goesOn_102 (by decide) (fun h102 => ?_) (fun h102 => False.elim (by first | exact absurd h102 (by rw [h85]; decide) | exact absurd (by rw [h85]; decide) h102))
            refine zo_iconst (i := i_Ho_goesOn) (pc := 109) (v := 0) d_Ho_goesOn_109 (by decide) ?_
            refine zo_zreturn (i := i_Ho_goesOn) (pc := 110) hq d_Ho_goesOn_110 rfl rfl (Nat.le_of_ble_eq_true rfl) (Nat.le_of_ble_eq_true rfl) ?_
            rw [zb_0, Bool.not_eq_false] at h89
            have ek : hkind (s, u, ow.2.map Prod.snd, nb.2.map Prod.snd, ro.2.map Prod.snd, pf.2.map Prod.snd, pa.2.map Prod.snd, hd) i = hd.2.1 i := by
              unfold hkind
              exact if_neg (fun q => hA0 q.1)
            have eg : goT (s, u, ow.2.map Prod.snd, nb.2.map Prod.snd, ro.2.map Prod.snd, pf.2.map Prod.snd, pa.2.map Prod.snd, hd) i fr gr = (false, (s, u, ow.2.map Prod.snd, nb.2.map Prod.snd, ro.2.map Prod.snd, pf.2.map Prod.snd, pa.2.map Prod.snd, hd)) := by
              unfold goT
              rw [ek]
              simp [hA0, hK, h79, h85, h102, h89]
            rw [eg] at k
            exact k ws ⟨_, _, _, _, _, h1, h2, h3, h4, h5, rfl, rfl, rfl, rfl, rfl, h6, hs⟩
          · refine zo_aload_n (i := i_Ho_goesOn) (pc := 92) d_Ho_goesOn_92 rfl rfl ?_
            refine zo_iload_n (i := i_Ho_goesOn) (pc := 93) d_Ho_goesOn_93 rfl ?_
            refine zo_iconst (i := i_Ho_goesOn) (pc := 94) (v := 2) d_Ho_goesOn_94 (by decide) ?_
            refine zo_iload_n (i := i_Ho_goesOn) (pc := 95) d_Ho_goesOn_95 rfl ?_
            refine zo_iload_n (i := i_Ho_goesOn) (pc := 96) d_Ho_goesOn_96 rfl ?_
            refine zc_V4 (i := i_Ho_goesOn) (pc := 97) 9 rfl m_Ho_answerFault (ztb_of k_760 rfl) (ztb_of k_762 rfl) s_Ho_answerFault d_Ho_goesOn_97 (Nat.le_of_ble_eq_true rfl) (Nat.le_of_ble_eq_true rfl) (Nat.le_of_ble_eq_true rfl) (Nat.le_of_ble_eq_true rfl) (hs.get (t := 0) rfl) (c_Ho_answerFault h0 fun ws hF => ?_)
            refine zo_iload (i := i_Ho_goesOn) (pc := 100) d_Ho_goesOn_100 rfl ?_
            refine zo_if_ne (i := i_Ho_goesOn) (pc := 102) (tgt := 109) d_Ho_goesOn_102 (by decide) (fun h102 => ?_) (fun h102 => False.elim (by first | exact absurd h102 (by rw [h85]; decide) | exact absurd (by rw [h85]; decide) h102))
            refine zo_iconst (i := i_Ho_goesOn) (pc := 109) (v := 0) d_Ho_goesOn_109 (by decide) ?_
            refine zo_zreturn (i := i_Ho_goesOn) (pc := 110) hq d_Ho_goesOn_110 rfl rfl (Nat.le_of_ble_eq_true rfl) (Nat.le_of_ble_eq_true rfl) ?_
            rw [zb_0] at h89
            have ek : hkind (s, u, ow.2.map Prod.snd, nb.2.map Prod.snd, ro.2.map Prod.snd, pf.2.map Prod.snd, pa.2.map Prod.snd, hd) i = hd.2.1 i := by
              unfold hkind
              exact if_neg (fun q => hA0 q.1)
            have eg : goT (s, u, ow.2.map Prod.snd, nb.2.map Prod.snd, ro.2.map Prod.snd, pf.2.map Prod.snd, pa.2.map Prod.snd, hd) i fr gr = (false, faultT (s, u, ow.2.map Prod.snd, nb.2.map Prod.snd, ro.2.map Prod.snd, pf.2.map Prod.snd, pa.2.map Prod.snd, hd) (nI i) 2 fr gr) := by
              unfold goT
              rw [ek]
              simp [hA0, hK, h79, h85, h102, h89]
            rw [eg] at k
            exact k ws hF
    · rw [hK]
      refine zo_tableIn (i := i_Ho_goesOn) (pc := 37) (off := 74) (tgt := 111) d_Ho_goesOn_37 (by decide) (by decide) rfl (by decide) ?_
      refine zo_iload (i := i_Ho_goesOn) (pc := 111) d_Ho_goesOn_111 rfl ?_
      refine zo_if_eq (i := i_Ho_goesOn) (pc := 113) (tgt := 124) d_Ho_goesOn_113 (by decide) (fun h113 => ?_) (fun h113 => ?_)
      · refine zo_iload (i := i_Ho_goesOn) (pc := 124) d_Ho_goesOn_124 rfl ?_
        refine zo_if_ne (i := i_Ho_goesOn) (pc := 126) (tgt := 133) d_Ho_goesOn_126 (by decide) (fun h126 => False.elim (by first | exact absurd h126 (h113) | exact absurd (h113) h126)) (fun h126 => ?_)
        refine zo_iconst (i := i_Ho_goesOn) (pc := 129) (v := 1) d_Ho_goesOn_129 (by decide) ?_
        refine zo_goto (i := i_Ho_goesOn) (pc := 130) (tgt := 134) d_Ho_goesOn_130 (by decide) ?_
        refine zo_zreturn (i := i_Ho_goesOn) (pc := 134) hq d_Ho_goesOn_134 rfl rfl (Nat.le_of_ble_eq_true rfl) (Nat.le_of_ble_eq_true rfl) ?_
        have ek : hkind (s, u, ow.2.map Prod.snd, nb.2.map Prod.snd, ro.2.map Prod.snd, pf.2.map Prod.snd, pa.2.map Prod.snd, hd) i = hd.2.1 i := by
          unfold hkind
          exact if_neg (fun q => hA0 q.1)
        have eg : goT (s, u, ow.2.map Prod.snd, nb.2.map Prod.snd, ro.2.map Prod.snd, pf.2.map Prod.snd, pa.2.map Prod.snd, hd) i fr gr = (true, (s, u, ow.2.map Prod.snd, nb.2.map Prod.snd, ro.2.map Prod.snd, pf.2.map Prod.snd, pa.2.map Prod.snd, hd)) := by
          unfold goT
          rw [ek]
          simp [hA0, hK, h113, h126]
        rw [eg] at k
        exact k ws ⟨_, _, _, _, _, h1, h2, h3, h4, h5, rfl, rfl, rfl, rfl, rfl, h6, hs⟩
      · refine zo_aload_n (i := i_Ho_goesOn) (pc := 116) d_Ho_goesOn_116 rfl rfl ?_
        refine zo_iload_n (i := i_Ho_goesOn) (pc := 117) d_Ho_goesOn_117 rfl ?_
        refine zo_iconst (i := i_Ho_goesOn) (pc := 118) (v := 0) d_Ho_goesOn_118 (by decide) ?_
        refine zo_iload_n (i := i_Ho_goesOn) (pc := 119) d_Ho_goesOn_119 rfl ?_
        refine zo_iload_n (i := i_Ho_goesOn) (pc := 120) d_Ho_goesOn_120 rfl ?_
        refine zc_V4 (i := i_Ho_goesOn) (pc := 121) 9 rfl m_Ho_answerFault (ztb_of k_760 rfl) (ztb_of k_762 rfl) s_Ho_answerFault d_Ho_goesOn_121 (Nat.le_of_ble_eq_true rfl) (Nat.le_of_ble_eq_true rfl) (Nat.le_of_ble_eq_true rfl) (Nat.le_of_ble_eq_true rfl) (hs.get (t := 0) rfl) (c_Ho_answerFault h0 fun ws hF => ?_)
        refine zo_iload (i := i_Ho_goesOn) (pc := 124) d_Ho_goesOn_124 rfl ?_
        refine zo_if_ne (i := i_Ho_goesOn) (pc := 126) (tgt := 133) d_Ho_goesOn_126 (by decide) (fun h126 => ?_) (fun h126 => False.elim (by first | exact absurd h126 (h113) | exact absurd (h113) h126))
        refine zo_iconst (i := i_Ho_goesOn) (pc := 133) (v := 0) d_Ho_goesOn_133 (by decide) ?_
        refine zo_zreturn (i := i_Ho_goesOn) (pc := 134) hq d_Ho_goesOn_134 rfl rfl (Nat.le_of_ble_eq_true rfl) (Nat.le_of_ble_eq_true rfl) ?_
        have ek : hkind (s, u, ow.2.map Prod.snd, nb.2.map Prod.snd, ro.2.map Prod.snd, pf.2.map Prod.snd, pa.2.map Prod.snd, hd) i = hd.2.1 i := by
          unfold hkind
          exact if_neg (fun q => hA0 q.1)
        have eg : goT (s, u, ow.2.map Prod.snd, nb.2.map Prod.snd, ro.2.map Prod.snd, pf.2.map Prod.snd, pa.2.map Prod.snd, hd) i fr gr = (false, faultT (s, u, ow.2.map Prod.snd, nb.2.map Prod.snd, ro.2.map Prod.snd, pf.2.map Prod.snd, pa.2.map Prod.snd, hd) (nI i) 0 fr gr) := by
          unfold goT
          rw [ek]
          simp [hA0, hK, h113, h126]
        rw [eg] at k
        exact k ws hF
    · rw [hK]
      refine zo_tableIn (i := i_Ho_goesOn) (pc := 37) (off := 98) (tgt := 135) d_Ho_goesOn_37 (by decide) (by decide) rfl (by decide) ?_
      refine zo_iload (i := i_Ho_goesOn) (pc := 135) d_Ho_goesOn_135 rfl ?_
      refine zo_if_ne (i := i_Ho_goesOn) (pc := 137) (tgt := 144) d_Ho_goesOn_137 (by decide) (fun h137 => ?_) (fun h137 => ?_)
      · refine zo_iconst (i := i_Ho_goesOn) (pc := 144) (v := 0) d_Ho_goesOn_144 (by decide) ?_
        refine zo_zreturn (i := i_Ho_goesOn) (pc := 145) hq d_Ho_goesOn_145 rfl rfl (Nat.le_of_ble_eq_true rfl) (Nat.le_of_ble_eq_true rfl) ?_
        have ek : hkind (s, u, ow.2.map Prod.snd, nb.2.map Prod.snd, ro.2.map Prod.snd, pf.2.map Prod.snd, pa.2.map Prod.snd, hd) i = hd.2.1 i := by
          unfold hkind
          exact if_neg (fun q => hA0 q.1)
        have eg : goT (s, u, ow.2.map Prod.snd, nb.2.map Prod.snd, ro.2.map Prod.snd, pf.2.map Prod.snd, pa.2.map Prod.snd, hd) i fr gr = (false, (s, u, ow.2.map Prod.snd, nb.2.map Prod.snd, ro.2.map Prod.snd, pf.2.map Prod.snd, pa.2.map Prod.snd, hd)) := by
          unfold goT
          rw [ek]
          simp [hA0, hK, h137]
        rw [eg] at k
        exact k ws ⟨_, _, _, _, _, h1, h2, h3, h4, h5, rfl, rfl, rfl, rfl, rfl, h6, hs⟩
      · refine zo_iconst (i := i_Ho_goesOn) (pc := 140) (v := 1) d_Ho_goesOn_140 (by decide) ?_
        refine zo_goto (i := i_Ho_goesOn) (pc := 141) (tgt := 145) d_Ho_goesOn_141 (by decide) ?_
        refine zo_zreturn (i := i_Ho_goesOn) (pc := 145) hq d_Ho_goesOn_145 rfl rfl (Nat.le_of_ble_eq_true rfl) (Nat.le_of_ble_eq_true rfl) ?_
        have ek : hkind (s, u, ow.2.map Prod.snd, nb.2.map Prod.snd, ro.2.map Prod.snd, pf.2.map Prod.snd, pa.2.map Prod.snd, hd) i = hd.2.1 i := by
          unfold hkind
          exact if_neg (fun q => hA0 q.1)
        have eg : goT (s, u, ow.2.map Prod.snd, nb.2.map Prod.snd, ro.2.map Prod.snd, pf.2.map Prod.snd, pa.2.map Prod.snd, hd) i fr gr = (true, (s, u, ow.2.map Prod.snd, nb.2.map Prod.snd, ro.2.map Prod.snd, pf.2.map Prod.snd, pa.2.map Prod.snd, hd)) := by
          unfold goT
          rw [ek]
          simp [hA0, hK, h137]
        rw [eg] at k
        exact k ws ⟨_, _, _, _, _, h1, h2, h3, h4, h5, rfl, rfl, rfl, rfl, rfl, h6, hs⟩
    · rw [hK]
      refine zo_tableIn (i := i_Ho_goesOn) (pc := 37) (off := 109) (tgt := 146) d_Ho_goesOn_37 (by decide) (by decide) rfl (by decide) ?_
      refine zo_iconst (i := i_Ho_goesOn) (pc := 146) (v := 0) d_Ho_goesOn_146 (by decide) ?_
      refine zo_zreturn (i := i_Ho_goesOn) (pc := 147) hq d_Ho_goesOn_147 rfl rfl (Nat.le_of_ble_eq_true rfl) (Nat.le_of_ble_eq_true rfl) ?_
      have ek : hkind (s, u, ow.2.map Prod.snd, nb.2.map Prod.snd, ro.2.map Prod.snd, pf.2.map Prod.snd, pa.2.map Prod.snd, hd) i = hd.2.1 i := by
        unfold hkind
        exact if_neg (fun q => hA0 q.1)
      have eg : goT (s, u, ow.2.map Prod.snd, nb.2.map Prod.snd, ro.2.map Prod.snd, pf.2.map Prod.snd, pa.2.map Prod.snd, hd) i fr gr = (false, (s, u, ow.2.map Prod.snd, nb.2.map Prod.snd, ro.2.map Prod.snd, pf.2.map Prod.snd, pa.2.map Prod.snd, hd)) := by
        unfold goT
        rw [ek]
        simp [hA0, hK]
      rw [eg] at k
      exact k ws ⟨_, _, _, _, _, h1, h2, h3, h4, h5, rfl, rfl, rfl, rfl, rfl, h6, hs⟩
    · rw [hK]
      refine zo_tableIn (i := i_Ho_goesOn) (pc := 37) (off := 111) (tgt := 148) d_Ho_goesOn_37 (by decide) (by decide) rfl (by decide) ?_
      refine zo_iload_n (i := i_Ho_goesOn) (pc := 148) d_Ho_goesOn_148 rfl ?_
      refine zo_if_eq (i := i_Ho_goesOn) (pc := 149) (tgt := 163) d_Ho_goesOn_149 (by decide) (fun h149 => ?_) (fun h149 => ?_)
      · refine zo_iconst (i := i_Ho_goesOn) (pc := 163) (v := 0) d_Ho_goesOn_163 (by decide) ?_
        refine zo_zreturn (i := i_Ho_goesOn) (pc := 164) hq d_Ho_goesOn_164 rfl rfl (Nat.le_of_ble_eq_true rfl) (Nat.le_of_ble_eq_true rfl) ?_
        have ek : hkind (s, u, ow.2.map Prod.snd, nb.2.map Prod.snd, ro.2.map Prod.snd, pf.2.map Prod.snd, pa.2.map Prod.snd, hd) i = hd.2.1 i := by
          unfold hkind
          exact if_neg (fun q => hA0 q.1)
        have eg : goT (s, u, ow.2.map Prod.snd, nb.2.map Prod.snd, ro.2.map Prod.snd, pf.2.map Prod.snd, pa.2.map Prod.snd, hd) i fr gr = (false, (s, u, ow.2.map Prod.snd, nb.2.map Prod.snd, ro.2.map Prod.snd, pf.2.map Prod.snd, pa.2.map Prod.snd, hd)) := by
          unfold goT
          rw [ek]
          simp [hA0, hK, h149]
        rw [eg] at k
        exact k ws ⟨_, _, _, _, _, h1, h2, h3, h4, h5, rfl, rfl, rfl, rfl, rfl, h6, hs⟩
      · refine zo_aload_n (i := i_Ho_goesOn) (pc := 152) d_Ho_goesOn_152 rfl rfl ?_
        refine zo_get (i := i_Ho_goesOn) (pc := 153) 9 1 rfl zok_Ho (Nat.le_of_ble_eq_true rfl) (ztb_of k_263 rfl) d_Ho_goesOn_153 (fun _ _ _ h => h) (hs.get (t := 0) rfl) rfl ?_
        refine zo_iconst (i := i_Ho_goesOn) (pc := 156) (v := 5) d_Ho_goesOn_156 (by decide) ?_
        refine zo_iload_n (i := i_Ho_goesOn) (pc := 157) d_Ho_goesOn_157 rfl ?_
        refine zo_iload (i := i_Ho_goesOn) (pc := 158) d_Ho_goesOn_158 rfl ?_
        refine zc_VN3 (i := i_Ho_goesOn) (pc := 160) 4 rfl m_Ou_add (ztb_of k_257 rfl) (ztb_of k_259 rfl) s_Ou_add d_Ho_goesOn_160 (Nat.le_of_ble_eq_true rfl) (Nat.le_of_ble_eq_true rfl) (Nat.le_of_ble_eq_true rfl) (Nat.le_of_ble_eq_true rfl) ((hs.pick 1 rfl).get (t := 0) rfl) (c_ou_add (hs.pick 1 rfl) fun ws hs => ?_)
        replace hs : zHas ws (hL g A s (ouAdd u 5 fr (hd.2.2 i)) ow nb ro pf pa hd R).flatten := zHas.back (cs := hL g A s u ow nb ro pf pa hd R) 1 rfl hs
        refine zo_iconst (i := i_Ho_goesOn) (pc := 163) (v := 0) d_Ho_goesOn_163 (by decide) ?_
        refine zo_zreturn (i := i_Ho_goesOn) (pc := 164) hq d_Ho_goesOn_164 rfl rfl (Nat.le_of_ble_eq_true rfl) (Nat.le_of_ble_eq_true rfl) ?_
        have ek : hkind (s, u, ow.2.map Prod.snd, nb.2.map Prod.snd, ro.2.map Prod.snd, pf.2.map Prod.snd, pa.2.map Prod.snd, hd) i = hd.2.1 i := by
          unfold hkind
          exact if_neg (fun q => hA0 q.1)
        have eg : goT (s, u, ow.2.map Prod.snd, nb.2.map Prod.snd, ro.2.map Prod.snd, pf.2.map Prod.snd, pa.2.map Prod.snd, hd) i fr gr = (false, tU (s, u, ow.2.map Prod.snd, nb.2.map Prod.snd, ro.2.map Prod.snd, pf.2.map Prod.snd, pa.2.map Prod.snd, hd) (ouAdd u 5 fr (hd.2.2 i))) := by
          unfold goT
          rw [ek]
          simp [hA0, hK, h149]
        rw [eg] at k
        exact k ws ⟨_, _, _, _, _, h1, h2, h3, h4, h5, rfl, rfl, rfl, rfl, rfl, h6, hs⟩
    · rw [hK]
      refine zo_tableIn (i := i_Ho_goesOn) (pc := 37) (off := 128) (tgt := 165) d_Ho_goesOn_37 (by decide) (by decide) rfl (by decide) ?_
      refine zo_aload_n (i := i_Ho_goesOn) (pc := 165) d_Ho_goesOn_165 rfl rfl ?_
      refine zo_dup (i := i_Ho_goesOn) (pc := 166) d_Ho_goesOn_166 rfl ?_
      refine zo_get (i := i_Ho_goesOn) (pc := 167) 9 11 rfl zok_Ho (Nat.le_of_ble_eq_true rfl) (ztb_of k_273 rfl) d_Ho_goesOn_167 (fun _ _ _ h => h) (hs.get (t := 0) rfl) rfl ?_
      refine zo_iconst (i := i_Ho_goesOn) (pc := 170) (v := 1) d_Ho_goesOn_170 (by decide) ?_
      refine zo_iadd (i := i_Ho_goesOn) (pc := 171) d_Ho_goesOn_171 ?_
      refine zh_put (i := i_Ho_goesOn) (pc := 172) 9 11 rfl zok_Ho (Nat.le_of_ble_eq_true rfl) (ztb_of k_273 rfl) rfl d_Ho_goesOn_172 (fun _ _ _ h => h) (t_Ho_ok 11 (Nat.le_of_ble_eq_true rfl)) rfl rfl hs 0 rfl (Nat.le_of_ble_eq_true rfl) fun ws hs => ?_
      replace hs : zHas ws (hL g A (tkS s) u ow nb ro pf pa hd R).flatten := hs
      refine zo_iconst (i := i_Ho_goesOn) (pc := 175) (v := 0) d_Ho_goesOn_175 (by decide) ?_
      refine zo_zreturn (i := i_Ho_goesOn) (pc := 176) hq d_Ho_goesOn_176 rfl rfl (Nat.le_of_ble_eq_true rfl) (Nat.le_of_ble_eq_true rfl) ?_
      have ek : hkind (s, u, ow.2.map Prod.snd, nb.2.map Prod.snd, ro.2.map Prod.snd, pf.2.map Prod.snd, pa.2.map Prod.snd, hd) i = hd.2.1 i := by
        unfold hkind
        exact if_neg (fun q => hA0 q.1)
      have eg : goT (s, u, ow.2.map Prod.snd, nb.2.map Prod.snd, ro.2.map Prod.snd, pf.2.map Prod.snd, pa.2.map Prod.snd, hd) i fr gr = (false, tS (s, u, ow.2.map Prod.snd, nb.2.map Prod.snd, ro.2.map Prod.snd, pf.2.map Prod.snd, pa.2.map Prod.snd, hd) (tkS s)) := by
        unfold goT
        rw [ek]
        simp [hA0, hK]
      rw [eg] at k
      exact k ws ⟨_, _, _, _, _, h1, h2, h3, h4, h5, rfl, rfl, rfl, rfl, rfl, h6, hs⟩
    · refine zo_tableOut (i := i_Ho_goesOn) (pc := 37) (tgt := 177) d_Ho_goesOn_37 hK (by decide) ?_
      refine zo_aload_n (i := i_Ho_goesOn) (pc := 177) d_Ho_goesOn_177 rfl rfl ?_
      refine zo_iload_n (i := i_Ho_goesOn) (pc := 178) d_Ho_goesOn_178 rfl ?_
      refine zo_iconst (i := i_Ho_goesOn) (pc := 179) (v := 1) d_Ho_goesOn_179 (by decide) ?_
      refine zo_iload_n (i := i_Ho_goesOn) (pc := 180) d_Ho_goesOn_180 rfl ?_
      refine zo_iload_n (i := i_Ho_goesOn) (pc := 181) d_Ho_goesOn_181 rfl ?_
      refine zc_V4 (i := i_Ho_goesOn) (pc := 182) 9 rfl m_Ho_answerFault (ztb_of k_760 rfl) (ztb_of k_762 rfl) s_Ho_answerFault d_Ho_goesOn_182 (Nat.le_of_ble_eq_true rfl) (Nat.le_of_ble_eq_true rfl) (Nat.le_of_ble_eq_true rfl) (Nat.le_of_ble_eq_true rfl) (hs.get (t := 0) rfl) (c_Ho_answerFault h0 fun ws hF => ?_)
      refine zo_iconst (i := i_Ho_goesOn) (pc := 185) (v := 0) d_Ho_goesOn_185 (by decide) ?_
      refine zo_zreturn (i := i_Ho_goesOn) (pc := 186) hq d_Ho_goesOn_186 rfl rfl (Nat.le_of_ble_eq_true rfl) (Nat.le_of_ble_eq_true rfl) ?_
      obtain ⟨n1, n2, n3, n4, n5, n6⟩ := zout6 hK
      have ek : hkind (s, u, ow.2.map Prod.snd, nb.2.map Prod.snd, ro.2.map Prod.snd, pf.2.map Prod.snd, pa.2.map Prod.snd, hd) i = hd.2.1 i := by
        unfold hkind
        exact if_neg (fun q => hA0 q.1)
      have eg : goT (s, u, ow.2.map Prod.snd, nb.2.map Prod.snd, ro.2.map Prod.snd, pf.2.map Prod.snd, pa.2.map Prod.snd, hd) i fr gr = (false, faultT (s, u, ow.2.map Prod.snd, nb.2.map Prod.snd, ro.2.map Prod.snd, pf.2.map Prod.snd, pa.2.map Prod.snd, hd) (nI i) 1 fr gr) := by
        unfold goT
        rw [ek]
        simp [hA0, n1, n2, n3, n4, n5, n6]
      rw [eg] at k
      exact k ws hF
  · refine zo_iload_n (i := i_Ho_goesOn) (pc := 27) d_Ho_goesOn_27 rfl ?_
    refine zo_if_ne (i := i_Ho_goesOn) (pc := 28) (tgt := 35) d_Ho_goesOn_28 (by decide) (fun h28 => ?_) (fun h28 => ?_)
    · refine zo_iload (i := i_Ho_goesOn) (pc := 35) d_Ho_goesOn_35 rfl ?_
      rw [hA0]
      refine zo_tableOut (i := i_Ho_goesOn) (pc := 37) (tgt := 177) d_Ho_goesOn_37 (by decide) (by decide) ?_
      refine zo_aload_n (i := i_Ho_goesOn) (pc := 177) d_Ho_goesOn_177 rfl rfl ?_
      refine zo_iload_n (i := i_Ho_goesOn) (pc := 178) d_Ho_goesOn_178 rfl ?_
      refine zo_iconst (i := i_Ho_goesOn) (pc := 179) (v := 1) d_Ho_goesOn_179 (by decide) ?_
      refine zo_iload_n (i := i_Ho_goesOn) (pc := 180) d_Ho_goesOn_180 rfl ?_
      refine zo_iload_n (i := i_Ho_goesOn) (pc := 181) d_Ho_goesOn_181 rfl ?_
      refine zc_V4 (i := i_Ho_goesOn) (pc := 182) 9 rfl m_Ho_answerFault (ztb_of k_760 rfl) (ztb_of k_762 rfl) s_Ho_answerFault d_Ho_goesOn_182 (Nat.le_of_ble_eq_true rfl) (Nat.le_of_ble_eq_true rfl) (Nat.le_of_ble_eq_true rfl) (Nat.le_of_ble_eq_true rfl) (hs.get (t := 0) rfl) (c_Ho_answerFault h0 fun ws hF => ?_)
      refine zo_iconst (i := i_Ho_goesOn) (pc := 185) (v := 0) d_Ho_goesOn_185 (by decide) ?_
      refine zo_zreturn (i := i_Ho_goesOn) (pc := 186) hq d_Ho_goesOn_186 rfl rfl (Nat.le_of_ble_eq_true rfl) (Nat.le_of_ble_eq_true rfl) ?_
      have hi0 : ¬ i = 0 := fun q => h28 (by rw [q]; rfl)
      have ek : hkind (s, u, ow.2.map Prod.snd, nb.2.map Prod.snd, ro.2.map Prod.snd, pf.2.map Prod.snd, pa.2.map Prod.snd, hd) i = hd.2.1 i := by
        unfold hkind
        exact if_neg (fun q => hi0 q.2)
      have eg : goT (s, u, ow.2.map Prod.snd, nb.2.map Prod.snd, ro.2.map Prod.snd, pf.2.map Prod.snd, pa.2.map Prod.snd, hd) i fr gr = (false, faultT (s, u, ow.2.map Prod.snd, nb.2.map Prod.snd, ro.2.map Prod.snd, pf.2.map Prod.snd, pa.2.map Prod.snd, hd) (nI i) 1 fr gr) := by
        unfold goT
        rw [ek]
        simp [hA0]
      rw [eg] at k
      exact k ws hF
    · refine zo_iconst (i := i_Ho_goesOn) (pc := 31) (v := 1) d_Ho_goesOn_31 (by decide) ?_
      refine zo_goto (i := i_Ho_goesOn) (pc := 32) (tgt := 37) d_Ho_goesOn_32 (by decide) ?_
      
      refine zo_tableIn (i := i_Ho_goesOn) (pc := 37) (off := 39) (tgt := 76) d_Ho_goesOn_37 (by decide) (by decide) rfl (by decide) ?_
      refine zo_iload (i := i_Ho_goesOn) (pc := 76) d_Ho_goesOn_76 rfl ?_
      refine zo_iconst (i := i_Ho_goesOn) (pc := 78) (v := 2) d_Ho_goesOn_78 (by decide) ?_
      refine zo_icmp_eq (i := i_Ho_goesOn) (pc := 79) (tgt := 92) d_Ho_goesOn_79 (by decide) (fun h79 => ?_) (fun h79 => ?_)
      · refine zo_aload_n (i := i_Ho_goesOn) (pc := 92) d_Ho_goesOn_92 rfl rfl ?_
        refine zo_iload_n (i := i_Ho_goesOn) (pc := 93) d_Ho_goesOn_93 rfl ?_
        refine zo_iconst (i := i_Ho_goesOn) (pc := 94) (v := 2) d_Ho_goesOn_94 (by decide) ?_
        refine zo_iload_n (i := i_Ho_goesOn) (pc := 95) d_Ho_goesOn_95 rfl ?_
        refine zo_iload_n (i := i_Ho_goesOn) (pc := 96) d_Ho_goesOn_96 rfl ?_
        refine zc_V4 (i := i_Ho_goesOn) (pc := 97) 9 rfl m_Ho_answerFault (ztb_of k_760 rfl) (ztb_of k_762 rfl) s_Ho_answerFault d_Ho_goesOn_97 (Nat.le_of_ble_eq_true rfl) (Nat.le_of_ble_eq_true rfl) (Nat.le_of_ble_eq_true rfl) (Nat.le_of_ble_eq_true rfl) (hs.get (t := 0) rfl) (c_Ho_answerFault h0 fun ws hF => ?_)
        refine zo_iload (i := i_Ho_goesOn) (pc := 100) d_Ho_goesOn_100 rfl ?_
        refine zo_if_ne (i := i_Ho_goesOn) (pc := 102) (tgt := 109) d_Ho_goesOn_102 (by decide) (fun h102 => ?_) (fun h102 => False.elim (by first | exact absurd h102 (by rw [h79]; decide) | exact absurd (by rw [h79]; decide) h102))
        refine zo_iconst (i := i_Ho_goesOn) (pc := 109) (v := 0) d_Ho_goesOn_109 (by decide) ?_
        refine zo_zreturn (i := i_Ho_goesOn) (pc := 110) hq d_Ho_goesOn_110 rfl rfl (Nat.le_of_ble_eq_true rfl) (Nat.le_of_ble_eq_true rfl) ?_
        have hi0 : i = 0 := (nI_eq (by omega) (by decide)).mp h28
        have ek : hkind (s, u, ow.2.map Prod.snd, nb.2.map Prod.snd, ro.2.map Prod.snd, pf.2.map Prod.snd, pa.2.map Prod.snd, hd) i = 1 := by
          unfold hkind
          exact if_pos ⟨hA0, hi0⟩
        have eg : goT (s, u, ow.2.map Prod.snd, nb.2.map Prod.snd, ro.2.map Prod.snd, pf.2.map Prod.snd, pa.2.map Prod.snd, hd) i fr gr = (false, faultT (s, u, ow.2.map Prod.snd, nb.2.map Prod.snd, ro.2.map Prod.snd, pf.2.map Prod.snd, pa.2.map Prod.snd, hd) (nI i) 2 fr gr) := by
          unfold goT
          rw [ek]
          simp [hA0, h79, h102]
        rw [eg] at k
        exact k ws hF
      · refine zo_iload (i := i_Ho_goesOn) (pc := 82) d_Ho_goesOn_82 rfl ?_
        refine zo_iconst (i := i_Ho_goesOn) (pc := 84) (v := 3) d_Ho_goesOn_84 (by decide) ?_
        refine zo_icmp_ne (i := i_Ho_goesOn) (pc := 85) (tgt := 100) d_Ho_goesOn_85 (by decide) (fun h85 => ?_) (fun h85 => ?_)
        · refine zo_iload (i := i_Ho_goesOn) (pc := 100) d_Ho_goesOn_100 rfl ?_
          refine zo_if_ne (i := i_Ho_goesOn) (pc := 102) (tgt := 109) d_Ho_goesOn_102 (by decide) (fun h102 => ?_) (fun h102 => ?_)
          · refine zo_iconst (i := i_Ho_goesOn) (pc := 109) (v := 0) d_Ho_goesOn_109 (by decide) ?_
            refine zo_zreturn (i := i_Ho_goesOn) (pc := 110) hq d_Ho_goesOn_110 rfl rfl (Nat.le_of_ble_eq_true rfl) (Nat.le_of_ble_eq_true rfl) ?_
            have hi0 : i = 0 := (nI_eq (by omega) (by decide)).mp h28
            have ek : hkind (s, u, ow.2.map Prod.snd, nb.2.map Prod.snd, ro.2.map Prod.snd, pf.2.map Prod.snd, pa.2.map Prod.snd, hd) i = 1 := by
              unfold hkind
              exact if_pos ⟨hA0, hi0⟩
            have eg : goT (s, u, ow.2.map Prod.snd, nb.2.map Prod.snd, ro.2.map Prod.snd, pf.2.map Prod.snd, pa.2.map Prod.snd, hd) i fr gr = (false, (s, u, ow.2.map Prod.snd, nb.2.map Prod.snd, ro.2.map Prod.snd, pf.2.map Prod.snd, pa.2.map Prod.snd, hd)) := by
              unfold goT
              rw [ek]
              simp [hA0, h79, h85, h102]
            rw [eg] at k
            exact k ws ⟨_, _, _, _, _, h1, h2, h3, h4, h5, rfl, rfl, rfl, rfl, rfl, h6, hs⟩
          · refine zo_iconst (i := i_Ho_goesOn) (pc := 105) (v := 1) d_Ho_goesOn_105 (by decide) ?_
            refine zo_goto (i := i_Ho_goesOn) (pc := 106) (tgt := 110) d_Ho_goesOn_106 (by decide) ?_
            refine zo_zreturn (i := i_Ho_goesOn) (pc := 110) hq d_Ho_goesOn_110 rfl rfl (Nat.le_of_ble_eq_true rfl) (Nat.le_of_ble_eq_true rfl) ?_
            have hi0 : i = 0 := (nI_eq (by omega) (by decide)).mp h28
            have ek : hkind (s, u, ow.2.map Prod.snd, nb.2.map Prod.snd, ro.2.map Prod.snd, pf.2.map Prod.snd, pa.2.map Prod.snd, hd) i = 1 := by
              unfold hkind
              exact if_pos ⟨hA0, hi0⟩
            have eg : goT (s, u, ow.2.map Prod.snd, nb.2.map Prod.snd, ro.2.map Prod.snd, pf.2.map Prod.snd, pa.2.map Prod.snd, hd) i fr gr = (true, (s, u, ow.2.map Prod.snd, nb.2.map Prod.snd, ro.2.map Prod.snd, pf.2.map Prod.snd, pa.2.map Prod.snd, hd)) := by
              unfold goT
              rw [ek]
              simp [hA0, h79, h85, h102]
            rw [eg] at k
            exact k ws ⟨_, _, _, _, _, h1, h2, h3, h4, h5, rfl, rfl, rfl, rfl, rfl, h6, hs⟩
        · refine zo_iload_n (i := i_Ho_goesOn) (pc := 88) d_Ho_goesOn_88 rfl ?_
          refine zo_if_ne (i := i_Ho_goesOn) (pc := 89) (tgt := 100) d_Ho_goesOn_89 (by decide) (fun h89 => ?_) (fun h89 => ?_)
          · refine zo_iload (i := i_Ho_goesOn) (pc := 100) d_Ho_goesOn_100 rfl ?_
            refine zo_if_ne (i := i_Ho_goesOn) (pc := 102) (tgt := 109) d_Ho_goesOn_102 (by decide) (fun h102 => ?_) (fun h102 => False.elim (by first | exact absurd h102 (by rw [h85]; decide) | exact absurd (by rw [h85]; decide) h102))
            refine zo_iconst (i := i_Ho_goesOn) (pc := 109) (v := 0) d_Ho_goesOn_109 (by decide) ?_
            refine zo_zreturn (i := i_Ho_goesOn) (pc := 110) hq d_Ho_goesOn_110 rfl rfl (Nat.le_of_ble_eq_true rfl) (Nat.le_of_ble_eq_true rfl) ?_
            have hi0 : i = 0 := (nI_eq (by omega) (by decide)).mp h28
            rw [zb_0, Bool.not_eq_false] at h89
            have ek : hkind (s, u, ow.2.map Prod.snd, nb.2.map Prod.snd, ro.2.map Prod.snd, pf.2.map Prod.snd, pa.2.map Prod.snd, hd) i = 1 := by
              unfold hkind
              exact if_pos ⟨hA0, hi0⟩
            have eg : goT (s, u, ow.2.map Prod.snd, nb.2.map Prod.snd, ro.2.map Prod.snd, pf.2.map Prod.snd, pa.2.map Prod.snd, hd) i fr gr = (false, (s, u, ow.2.map Prod.snd, nb.2.map Prod.snd, ro.2.map Prod.snd, pf.2.map Prod.snd, pa.2.map Prod.snd, hd)) := by
              unfold goT
              rw [ek]
              simp [hA0, h79, h85, h102, h89]
            rw [eg] at k
            exact k ws ⟨_, _, _, _, _, h1, h2, h3, h4, h5, rfl, rfl, rfl, rfl, rfl, h6, hs⟩
          · refine zo_aload_n (i := i_Ho_goesOn) (pc := 92) d_Ho_goesOn_92 rfl rfl ?_
            refine zo_iload_n (i := i_Ho_goesOn) (pc := 93) d_Ho_goesOn_93 rfl ?_
            refine zo_iconst (i := i_Ho_goesOn) (pc := 94) (v := 2) d_Ho_goesOn_94 (by decide) ?_
            refine zo_iload_n (i := i_Ho_goesOn) (pc := 95) d_Ho_goesOn_95 rfl ?_
            refine zo_iload_n (i := i_Ho_goesOn) (pc := 96) d_Ho_goesOn_96 rfl ?_
            refine zc_V4 (i := i_Ho_goesOn) (pc := 97) 9 rfl m_Ho_answerFault (ztb_of k_760 rfl) (ztb_of k_762 rfl) s_Ho_answerFault d_Ho_goesOn_97 (Nat.le_of_ble_eq_true rfl) (Nat.le_of_ble_eq_true rfl) (Nat.le_of_ble_eq_true rfl) (Nat.le_of_ble_eq_true rfl) (hs.get (t := 0) rfl) (c_Ho_answerFault h0 fun ws hF => ?_)
            refine zo_iload (i := i_Ho_goesOn) (pc := 100) d_Ho_goesOn_100 rfl ?_
            refine zo_if_ne (i := i_Ho_goesOn) (pc := 102) (tgt := 109) d_Ho_goesOn_102 (by decide) (fun h102 => ?_) (fun h102 => False.elim (by first | exact absurd h102 (by rw [h85]; decide) | exact absurd (by rw [h85]; decide) h102))
            refine zo_iconst (i := i_Ho_goesOn) (pc := 109) (v := 0) d_Ho_goesOn_109 (by decide) ?_
            refine zo_zreturn (i := i_Ho_goesOn) (pc := 110) hq d_Ho_goesOn_110 rfl rfl (Nat.le_of_ble_eq_true rfl) (Nat.le_of_ble_eq_true rfl) ?_
            have hi0 : i = 0 := (nI_eq (by omega) (by decide)).mp h28
            rw [zb_0] at h89
            have ek : hkind (s, u, ow.2.map Prod.snd, nb.2.map Prod.snd, ro.2.map Prod.snd, pf.2.map Prod.snd, pa.2.map Prod.snd, hd) i = 1 := by
              unfold hkind
              exact if_pos ⟨hA0, hi0⟩
            have eg : goT (s, u, ow.2.map Prod.snd, nb.2.map Prod.snd, ro.2.map Prod.snd, pf.2.map Prod.snd, pa.2.map Prod.snd, hd) i fr gr = (false, faultT (s, u, ow.2.map Prod.snd, nb.2.map Prod.snd, ro.2.map Prod.snd, pf.2.map Prod.snd, pa.2.map Prod.snd, hd) (nI i) 2 fr gr) := by
              unfold goT
              rw [ek]
              simp [hA0, h79, h85, h102, h89]
            rw [eg] at k
            exact k ws hF
theorem c_Ho_lookAtHeaders {g : zG} {ws : va_W} {post : Option Value → va_W → Prop} {A : Nat → Nat} {q : hT} {R : va_W} (h : hH g A q R ws) {fr : Int32} {gr : Bool} (k : ∀ w, hH g A (lookT q fr gr q.2.2.2.2.2.2.2.1 0).2 R w → post (some (.int (lookT q fr gr q.2.2.2.2.2.2.2.1 0).1)) w) : zC g i_Ho_lookAtHeaders [.ref (A 0), .int fr, .int (zb gr)] ws post := by
  refine zC.intro (by decide +kernel) rfl (Nat.le_of_ble_eq_true rfl) fun x0 hq => ?_
  have loop : ∀ (n i : Nat) (q : hT) (ws : va_W), i + n = q.2.2.2.2.2.2.2.1 → hH g A q R ws → (∀ w, hH g A (lookT q fr gr n i).2 R w → post (some (.int (lookT q fr gr n i).1)) w) → zW x0 g i_Ho_lookAtHeaders 2 [some (.ref (A 0)), some (.int fr), some (.int (zb gr)), some (.int (nI i))] [] ws 0 0 := by
    intro n
    induction n with
    | zero =>
      intro i q ws hi h k
      have h0 := h
      obtain ⟨s, u, lo, ln, lr, lp, la, hd⟩ := q
      obtain ⟨ow, nb, ro, pf, pa, h1, h2, h3, h4, h5, rfl, rfl, rfl, rfl, rfl, h6, hs⟩ := h
      replace hs : zHas ws (hL g A s u ow nb ro pf pa hd R).flatten := hs
      have hi : i + 0 = hd.1 := hi
      have h6 : hd.1 ≤ 6 := h6
      refine zo_iload_n (i := i_Ho_lookAtHeaders) (pc := 2) d_Ho_lookAtHeaders_2 rfl ?_
      refine zo_aload_n (i := i_Ho_lookAtHeaders) (pc := 3) d_Ho_lookAtHeaders_3 rfl rfl ?_
      refine zo_get (i := i_Ho_lookAtHeaders) (pc := 4) 9 7 rfl zok_Ho (Nat.le_of_ble_eq_true rfl) (ztb_of k_269 rfl) d_Ho_lookAtHeaders_4 (fun _ _ _ h => h) (hs.get (t := 0) rfl) rfl ?_
      refine zo_getN (i := i_Ho_lookAtHeaders) (pc := 7) 1 2 rfl zok_Hd (Nat.le_of_ble_eq_true rfl) (ztb_of k_139 rfl) d_Ho_lookAtHeaders_7 (fun _ _ _ h => h) ((hs.pick 7 rfl).get (t := 0) rfl) rfl ?_
      refine zo_icmp_ge (i := i_Ho_lookAtHeaders) (pc := 10) (tgt := 33) d_Ho_lookAtHeaders_10 (by decide) (fun h10 => ?_) (fun h10 => False.elim (by first | exact absurd h10 (nI_le (by omega) (by omega)) | exact absurd (nI_le (by omega) (by omega)) h10))
      refine zo_aload_n (i := i_Ho_lookAtHeaders) (pc := 33) d_Ho_lookAtHeaders_33 rfl rfl ?_
      refine zo_get (i := i_Ho_lookAtHeaders) (pc := 34) 9 7 rfl zok_Ho (Nat.le_of_ble_eq_true rfl) (ztb_of k_269 rfl) d_Ho_lookAtHeaders_34 (fun _ _ _ h => h) (hs.get (t := 0) rfl) rfl ?_
      refine zo_getN (i := i_Ho_lookAtHeaders) (pc := 37) 1 2 rfl zok_Hd (Nat.le_of_ble_eq_true rfl) (ztb_of k_139 rfl) d_Ho_lookAtHeaders_37 (fun _ _ _ h => h) ((hs.pick 7 rfl).get (t := 0) rfl) rfl ?_
      refine zo_ireturn (i := i_Ho_lookAtHeaders) (pc := 40) hq d_Ho_lookAtHeaders_40 rfl (Nat.le_of_ble_eq_true rfl) (Nat.le_of_ble_eq_true rfl) ?_
      exact k ws h0
    | succ n ih =>
      intro i q ws hi h k
      have h0 := h
      obtain ⟨s, u, lo, ln, lr, lp, la, hd⟩ := q
      obtain ⟨ow, nb, ro, pf, pa, h1, h2, h3, h4, h5, rfl, rfl, rfl, rfl, rfl, h6, hs⟩ := h
      replace hs : zHas ws (hL g A s u ow nb ro pf pa hd R).flatten := hs
      have hi : i + (n + 1) = hd.1 := hi
      have h6 : hd.1 ≤ 6 := h6
      refine zo_iload_n (i := i_Ho_lookAtHeaders) (pc := 2) d_Ho_lookAtHeaders_2 rfl ?_
      refine zo_aload_n (i := i_Ho_lookAtHeaders) (pc := 3) d_Ho_lookAtHeaders_3 rfl rfl ?_
      refine zo_get (i := i_Ho_lookAtHeaders) (pc := 4) 9 7 rfl zok_Ho (Nat.le_of_ble_eq_true rfl) (ztb_of k_269 rfl) d_Ho_lookAtHeaders_4 (fun _ _ _ h => h) (hs.get (t := 0) rfl) rfl ?_
      refine zo_getN (i := i_Ho_lookAtHeaders) (pc := 7) 1 2 rfl zok_Hd (Nat.le_of_ble_eq_true rfl) (ztb_of k_139 rfl) d_Ho_lookAtHeaders_7 (fun _ _ _ h => h) ((hs.pick 7 rfl).get (t := 0) rfl) rfl ?_
      refine zo_icmp_ge (i := i_Ho_lookAtHeaders) (pc := 10) (tgt := 33) d_Ho_lookAtHeaders_10 (by decide) (fun h10 => False.elim (by first | exact absurd h10 (nI_ge (by omega) (by omega)) | exact absurd (nI_ge (by omega) (by omega)) h10)) (fun h10 => ?_)
      refine zo_aload_n (i := i_Ho_lookAtHeaders) (pc := 13) d_Ho_lookAtHeaders_13 rfl rfl ?_
      refine zo_iload_n (i := i_Ho_lookAtHeaders) (pc := 14) d_Ho_lookAtHeaders_14 rfl ?_
      refine zo_iload_n (i := i_Ho_lookAtHeaders) (pc := 15) d_Ho_lookAtHeaders_15 rfl ?_
      refine zo_iload_n (i := i_Ho_lookAtHeaders) (pc := 16) d_Ho_lookAtHeaders_16 rfl ?_
      refine zc_V3 (i := i_Ho_lookAtHeaders) (pc := 17) 9 rfl m_Ho_goesOn (ztb_of k_756 rfl) (ztb_of k_758 rfl) s_Ho_goesOn d_Ho_lookAtHeaders_17 (Nat.le_of_ble_eq_true rfl) (Nat.le_of_ble_eq_true rfl) (Nat.le_of_ble_eq_true rfl) (Nat.le_of_ble_eq_true rfl) (hs.get (t := 0) rfl) (c_Ho_goesOn h0 (show i < hd.1 by omega) fun ws hF => ?_)
      refine zo_if_ne (i := i_Ho_lookAtHeaders) (pc := 20) (tgt := 27) d_Ho_lookAtHeaders_20 (by decide) (fun hG => ?_) (fun hG => ?_)
      · refine zo_iinc (i := i_Ho_lookAtHeaders) (pc := 27) (v := nI (i + 1)) d_Ho_lookAtHeaders_27 rfl (nI_inc i) (Nat.le_of_ble_eq_true rfl) ?_
        refine zo_goto (i := i_Ho_lookAtHeaders) (pc := 30) (tgt := 2) d_Ho_lookAtHeaders_30 (by decide) ?_
        rw [zb_0, Bool.not_eq_false] at hG
        rw [lookT, if_pos hG] at k
        exact ih (i + 1) _ ws (by rw [goT_hd]; show i + 1 + n = hd.1; omega) hF k
      · refine zo_iload_n (i := i_Ho_lookAtHeaders) (pc := 23) d_Ho_lookAtHeaders_23 rfl ?_
        refine zo_iconst (i := i_Ho_lookAtHeaders) (pc := 24) (v := 1) d_Ho_lookAtHeaders_24 (by decide) ?_
        refine zo_iadd (i := i_Ho_lookAtHeaders) (pc := 25) d_Ho_lookAtHeaders_25 ?_
        refine zo_ireturn (i := i_Ho_lookAtHeaders) (pc := 26) hq d_Ho_lookAtHeaders_26 rfl (Nat.le_of_ble_eq_true rfl) (Nat.le_of_ble_eq_true rfl) ?_
        rw [zb_0] at hG
        rw [lookT, if_neg (by rw [hG]; decide)] at k
        exact k ws hF
  refine zo_iconst (i := i_Ho_lookAtHeaders) (pc := 0) (v := 0) d_Ho_lookAtHeaders_0 (by decide) ?_
  refine zo_istore_n (i := i_Ho_lookAtHeaders) (pc := 1) d_Ho_lookAtHeaders_1 (Nat.le_of_ble_eq_true rfl) ?_
  exact loop _ 0 q ws (by rw [Nat.zero_add]) h k
