/-! The model by states: the way of a packet, send, smaller (walks by a program, gen80.py). -/
theorem l_hop {g : zG} {ws : va_W} {post : Option Value → va_W → Prop} {B : Nat → Nat} {q : hT} {t : Int32} {R : va_W} (h : mS g B q t R ws) (hne : q.2.2.2.2.1 ≠ []) (k : post (some (.int (hopT q.2.2.2.2.1 q.2.2.2.1))) ws) : zC g i_Mo_hop [.ref (B 0)] ws post := by
  refine zC.intro (by decide +kernel) rfl (Nat.le_of_ble_eq_true rfl) fun x0 hq => ?_
  obtain ⟨m, F, hr, hs⟩ := h
  obtain ⟨e25, hlen, g3, g4, g5⟩ := hr.2.2.2.2.1 0 (by omega)
  have hcap := cap_le 0
  have hent : ent q 0 = q.2.2.2.2.1 := rfl
  rw [hent] at e25 hlen g3
  have hl4 : q.2.2.2.2.1.length ≤ 4 := Nat.le_trans hlen hcap
  have z0 : (0 : Int32).toNatClampNeg = 0 := by decide
  have g26 : ∀ (j : Nat) (x : zTD), q.2.2.2.2.1[j]? = some x → F 26 j = x.1 := by
    intro j x hx
    have := g3 j x hx
    simp only [Nat.mul_zero, Nat.zero_add] at this
    exact this
  have loop : ∀ (rest done : List zTD) (o : Option Value), q.2.2.2.2.1 = done ++ rest → (∀ y ∈ done, routeP q.2.2.2.1 y = false) → zW x0 g i_Mo_hop 2 [some (.ref (B 0)), some (.int (nI done.length)), o] [] ws 0 0 := by
    intro rest
    induction rest with
    | nil =>
      intro done o hq1 hno
      rw [List.append_nil] at hq1
      rw [← hq1] at hno ⊢
      obtain ⟨r, l, hrl⟩ : ∃ r l, q.2.2.2.2.1 = r :: l := by
        cases hh : q.2.2.2.2.1 with
        | nil => exact absurd hh hne
        | cons r l => exact ⟨r, l, rfl⟩
      have hk : hopT q.2.2.2.2.1 q.2.2.2.1 = r.1 := by rw [hrl]; rw [hrl] at hno; exact hopT_no hno
      have h26 : F 26 0 = r.1 := g26 0 r (by rw [hrl]; rfl)
      refine zo_iload_n (i := i_Mo_hop) (pc := 2) d_Mo_hop_2 rfl ?_
      refine zo_aload_n (i := i_Mo_hop) (pc := 3) d_Mo_hop_3 rfl rfl ?_
      refine zo_get (i := i_Mo_hop) (pc := 4) 10 25 rfl zok_Mo (Nat.le_of_ble_eq_true rfl) (ztb_of k_883 rfl) d_Mo_hop_4 (fun _ _ _ h => h) (hs.get (t := 0) rfl) rfl ?_
      refine zo_iconst (i := i_Mo_hop) (pc := 7) (v := 0) d_Mo_hop_7 (by decide) ?_
      refine zo_iaload (i := i_Mo_hop) (pc := 8) d_Mo_hop_8 (hs.get (t := 15) rfl) (by unfold vp_in; decide) ?_
      refine zo_icmp_ge (i := i_Mo_hop) (pc := 9) (tgt := 50) d_Mo_hop_9 (by decide) (fun h9 => ?_) (fun h9 => False.elim (by first | exact absurd h9 ((by rw [z0, e25]; exact nI_le (Nat.le_refl _) (by omega))) | exact absurd ((by rw [z0, e25]; exact nI_le (Nat.le_refl _) (by omega))) h9))
      refine zo_aload_n (i := i_Mo_hop) (pc := 50) d_Mo_hop_50 rfl rfl ?_
      refine zo_get (i := i_Mo_hop) (pc := 51) 10 26 rfl zok_Mo (Nat.le_of_ble_eq_true rfl) (ztb_of k_884 rfl) d_Mo_hop_51 (fun _ _ _ h => h) (hs.get (t := 0) rfl) rfl ?_
      refine zo_iconst (i := i_Mo_hop) (pc := 54) (v := 0) d_Mo_hop_54 (by decide) ?_
      refine zo_iaload (i := i_Mo_hop) (pc := 55) d_Mo_hop_55 (hs.get (t := 16) rfl) (by unfold vp_in; decide) ?_
      refine zo_ireturn (i := i_Mo_hop) (pc := 56) hq d_Mo_hop_56 rfl (Nat.le_of_ble_eq_true rfl) (Nat.le_of_ble_eq_true rfl) ?_
      rw [z0, h26, ← hk]
      exact k
    | cons x r ih =>
      intro done o hq1 hno
      have hll : done.length + (r.length + 1) = q.2.2.2.2.1.length := by rw [hq1, List.length_append, List.length_cons]
      have hx : q.2.2.2.2.1[done.length]? = some x := by rw [hq1]; exact mid done r x
      have h26 : F 26 (nI done.length).toNatClampNeg = x.1 := by rw [nI_clamp (by omega)]; exact g26 _ x hx
      have hn1 : nI (done.length + 1) = nI (done ++ [x]).length := by rw [List.length_append]; rfl
      refine zo_iload_n (i := i_Mo_hop) (pc := 2) d_Mo_hop_2 rfl ?_
      refine zo_aload_n (i := i_Mo_hop) (pc := 3) d_Mo_hop_3 rfl rfl ?_
      refine zo_get (i := i_Mo_hop) (pc := 4) 10 25 rfl zok_Mo (Nat.le_of_ble_eq_true rfl) (ztb_of k_883 rfl) d_Mo_hop_4 (fun _ _ _ h => h) (hs.get (t := 0) rfl) rfl ?_
      refine zo_iconst (i := i_Mo_hop) (pc := 7) (v := 0) d_Mo_hop_7 (by decide) ?_
      refine zo_iaload (i := i_Mo_hop) (pc := 8) d_Mo_hop_8 (hs.get (t := 15) rfl) (by unfold vp_in; decide) ?_
      refine zo_icmp_ge (i := i_Mo_hop) (pc := 9) (tgt := 50) d_Mo_hop_9 (by decide) (fun h9 => False.elim (by first | exact absurd h9 ((by rw [z0, e25]; exact nI_ge (by omega) (by omega))) | exact absurd ((by rw [z0, e25]; exact nI_ge (by omega) (by omega))) h9)) (fun h9 => ?_)
      refine zo_aload_n (i := i_Mo_hop) (pc := 12) d_Mo_hop_12 rfl rfl ?_
      refine zo_aload_n (i := i_Mo_hop) (pc := 13) d_Mo_hop_13 rfl rfl ?_
      refine zo_get (i := i_Mo_hop) (pc := 14) 10 26 rfl zok_Mo (Nat.le_of_ble_eq_true rfl) (ztb_of k_884 rfl) d_Mo_hop_14 (fun _ _ _ h => h) (hs.get (t := 0) rfl) rfl ?_
      refine zo_iload_n (i := i_Mo_hop) (pc := 17) d_Mo_hop_17 rfl ?_
      refine zo_iaload (i := i_Mo_hop) (pc := 18) d_Mo_hop_18 (hs.get (t := 16) rfl) (vp_in_nI (by omega) (by decide)) ?_
      rw [h26]
      refine zc_V1 (i := i_Mo_hop) (pc := 19) 10 rfl m_Mo_neighbourAt (ztb_of k_1012 rfl) (ztb_of k_1014 rfl) s_Mo_neighbourAt d_Mo_hop_19 (Nat.le_of_ble_eq_true rfl) (Nat.le_of_ble_eq_true rfl) (Nat.le_of_ble_eq_true rfl) (Nat.le_of_ble_eq_true rfl) (hs.get (t := 0) rfl) (l_nbAt ⟨_, _, hr, hs⟩ (fun j y hx2 hxa hf hset hno2 => ?_) (fun hf => ?_))
      · obtain ⟨o19, o20, o21, o22, o23, o24, ho7⟩ := hr.nb hx2
        refine zo_istore_n (i := i_Mo_hop) (pc := 22) d_Mo_hop_22 (Nat.le_of_ble_eq_true rfl) ?_
        refine zo_iload_n (i := i_Mo_hop) (pc := 23) d_Mo_hop_23 rfl ?_
        refine zo_if_lt (i := i_Mo_hop) (pc := 24) (tgt := 44) d_Mo_hop_24 (by decide) (fun h24 => False.elim (by first | exact absurd h24 ((nI_pos (by omega))) | exact absurd ((nI_pos (by omega))) h24)) (fun h24 => ?_)
        refine zo_aload_n (i := i_Mo_hop) (pc := 27) d_Mo_hop_27 rfl rfl ?_
        refine zo_get (i := i_Mo_hop) (pc := 28) 10 22 rfl zok_Mo (Nat.le_of_ble_eq_true rfl) (ztb_of k_880 rfl) d_Mo_hop_28 (fun _ _ _ h => h) (hs.get (t := 0) rfl) rfl ?_
        refine zo_iload_n (i := i_Mo_hop) (pc := 31) d_Mo_hop_31 rfl ?_
        refine zo_iaload (i := i_Mo_hop) (pc := 32) d_Mo_hop_32 (hs.get (t := 12) rfl) (vp_in_nI (by omega) (by decide)) ?_
        refine zo_iconst (i := i_Mo_hop) (pc := 33) (v := 1) d_Mo_hop_33 (by decide) ?_
        refine zo_icmp_eq (i := i_Mo_hop) (pc := 34) (tgt := 44) d_Mo_hop_34 (by decide) (fun h34 => ?_) (fun h34 => ?_)
        · refine zo_iinc (i := i_Mo_hop) (pc := 44) (v := nI (done.length + 1)) d_Mo_hop_44 rfl (nI_inc done.length) (Nat.le_of_ble_eq_true rfl) ?_
          refine zo_goto (i := i_Mo_hop) (pc := 47) (tgt := 2) d_Mo_hop_47 (by decide) ?_
          rw [o22] at h34
          rw [hn1]
          refine ih (done ++ [x]) _ (by rw [hq1, mid_next]) (fun y hy => ?_)
          rcases List.mem_append.mp hy with h1 | h1
          · exact hno y h1
          · rw [List.mem_singleton.mp h1]
            exact (by rw [routeP_some hf, decide_eq_true h34]; rfl)
        · refine zo_aload_n (i := i_Mo_hop) (pc := 37) d_Mo_hop_37 rfl rfl ?_
          refine zo_get (i := i_Mo_hop) (pc := 38) 10 26 rfl zok_Mo (Nat.le_of_ble_eq_true rfl) (ztb_of k_884 rfl) d_Mo_hop_38 (fun _ _ _ h => h) (hs.get (t := 0) rfl) rfl ?_
          refine zo_iload_n (i := i_Mo_hop) (pc := 41) d_Mo_hop_41 rfl ?_
          refine zo_iaload (i := i_Mo_hop) (pc := 42) d_Mo_hop_42 (hs.get (t := 16) rfl) (vp_in_nI (by omega) (by decide)) ?_
          refine zo_ireturn (i := i_Mo_hop) (pc := 43) hq d_Mo_hop_43 rfl (Nat.le_of_ble_eq_true rfl) (Nat.le_of_ble_eq_true rfl) ?_
          rw [o22] at h34
          rw [h26]
          have hk : hopT q.2.2.2.2.1 q.2.2.2.1 = x.1 := by rw [hq1]; exact hopT_at hno (by rw [routeP_some hf, decide_eq_false h34]; rfl)
          rw [← hk]
          exact k
      · refine zo_istore_n (i := i_Mo_hop) (pc := 22) d_Mo_hop_22 (Nat.le_of_ble_eq_true rfl) ?_
        refine zo_iload_n (i := i_Mo_hop) (pc := 23) d_Mo_hop_23 rfl ?_
        refine zo_if_lt (i := i_Mo_hop) (pc := 24) (tgt := 44) d_Mo_hop_24 (by decide) (fun h24 => ?_) (fun h24 => False.elim (by first | exact absurd h24 ((by decide)) | exact absurd ((by decide)) h24))
        refine zo_iinc (i := i_Mo_hop) (pc := 44) (v := nI (done.length + 1)) d_Mo_hop_44 rfl (nI_inc done.length) (Nat.le_of_ble_eq_true rfl) ?_
        refine zo_goto (i := i_Mo_hop) (pc := 47) (tgt := 2) d_Mo_hop_47 (by decide) ?_
        rw [hn1]
        refine ih (done ++ [x]) _ (by rw [hq1, mid_next]) (fun y hy => ?_)
        rcases List.mem_append.mp hy with h1 | h1
        · exact hno y h1
        · rw [List.mem_singleton.mp h1]
          exact (routeP_none hf)
  refine zo_iconst (i := i_Mo_hop) (pc := 0) (v := 0) d_Mo_hop_0 (by decide) ?_
  rw [← nI_0]
  refine zo_istore_n (i := i_Mo_hop) (pc := 1) d_Mo_hop_1 (Nat.le_of_ble_eq_true rfl) ?_
  exact loop q.2.2.2.2.1 [] _ rfl (fun y hy => by cases hy)
theorem l_send {g : zG} {ws : va_W} {post : Option Value → va_W → Prop} {B : Nat → Nat} {q : hT} {t : Int32} {R : va_W} (h : mS g B q t R ws) {a n : Int32} {T U : Nat} (hi : hI q T U) (k0 : (zaddr a = true ∧ zwithin n 1 40 = true) → q.1.2.2.2.2.2.2 = false → ∀ w, mS g B (sendQ q a n).2 0 R w → post (some (.int (sendQ q a n).1)) w) (k1 : ¬ (zaddr a = true ∧ zwithin n 1 40 = true) → ∀ w, mS g B q 1 R w → post (some (.int 0)) w) (k2 : (zaddr a = true ∧ zwithin n 1 40 = true) → q.1.2.2.2.2.2.2 = true → ∀ w, mS g B q 2 R w → post (some (.int 0)) w) : zC g i_Mo_send [.ref (B 0), .int a, .int n] ws post := by
  refine zC.intro (by decide +kernel) rfl (Nat.le_of_ble_eq_true rfl) fun x0 hq => ?_
  obtain ⟨m, F, hr, hs⟩ := h
  by_cases hg : zaddr a = true ∧ zwithin n 1 40 = true
  · cases hdn : q.1.2.2.2.2.2.2
    · refine zo_aload_n (i := i_Mo_send) (pc := 0) d_Mo_send_0 rfl rfl ?_
      refine zo_aload_n (i := i_Mo_send) (pc := 1) d_Mo_send_1 rfl rfl ?_
      refine zo_iload_n (i := i_Mo_send) (pc := 2) d_Mo_send_2 rfl ?_
      refine zc_V1 (i := i_Mo_send) (pc := 3) 10 rfl m_Mo_isAddress (ztb_of k_1056 rfl) (ztb_of k_1058 rfl) s_Mo_isAddress d_Mo_send_3 (Nat.le_of_ble_eq_true rfl) (Nat.le_of_ble_eq_true rfl) (Nat.le_of_ble_eq_true rfl) (Nat.le_of_ble_eq_true rfl) (hs.get (t := 0) rfl) (c_Mo_isAddress ?_)
      refine zo_if_eq (i := i_Mo_send) (pc := 6) (tgt := 20) d_Mo_send_6 (by decide) (fun h6 => False.elim (by first | exact absurd h6 ((by rw [hg.1]; decide)) | exact absurd ((by rw [hg.1]; decide)) h6)) (fun h6 => ?_)
      refine zo_iload_n (i := i_Mo_send) (pc := 9) d_Mo_send_9 rfl ?_
      refine zo_iconst (i := i_Mo_send) (pc := 10) (v := 1) d_Mo_send_10 (by decide) ?_
      refine zo_icmp_lt (i := i_Mo_send) (pc := 11) (tgt := 20) d_Mo_send_11 (by decide) (fun h11 => False.elim (by first | exact absurd h11 ((zw_iff.mp hg.2).1) | exact absurd ((zw_iff.mp hg.2).1) h11)) (fun h11 => ?_)
      refine zo_iload_n (i := i_Mo_send) (pc := 14) d_Mo_send_14 rfl ?_
      refine zo_bipush (i := i_Mo_send) (pc := 15) (v := 40) d_Mo_send_15 (by decide) ?_
      refine zo_icmp_le (i := i_Mo_send) (pc := 17) (tgt := 24) d_Mo_send_17 (by decide) (fun h17 => ?_) (fun h17 => False.elim (by first | exact absurd h17 ((Int32.not_lt.mp (zw_iff.mp hg.2).2)) | exact absurd ((Int32.not_lt.mp (zw_iff.mp hg.2).2)) h17))
      refine zo_aload_n (i := i_Mo_send) (pc := 24) d_Mo_send_24 rfl rfl ?_
      refine zo_get (i := i_Mo_send) (pc := 25) 10 3 rfl zok_Mo (Nat.le_of_ble_eq_true rfl) (ztb_of k_861 rfl) d_Mo_send_25 (fun _ _ _ h => h) (hs.get (t := 0) rfl) rfl ?_
      refine zo_if_eq (i := i_Mo_send) (pc := 28) (tgt := 35) d_Mo_send_28 (by decide) (fun h28 => ?_) (fun h28 => False.elim (by first | exact absurd h28 ((by rw [hr.1.2.2.2.1, hdn]; rfl)) | exact absurd ((by rw [hr.1.2.2.2.1, hdn]; rfl)) h28))
      refine zo_iconst (i := i_Mo_send) (pc := 35) (v := 0) d_Mo_send_35 (by decide) ?_
      refine zh_put (i := i_Mo_send) (pc := 36) 10 0 rfl zok_Mo (Nat.le_of_ble_eq_true rfl) (ztb_of k_858 rfl) rfl d_Mo_send_36 (fun _ _ _ h => h) (t_Mo_ok 0 (Nat.le_of_ble_eq_true rfl)) rfl rfl hs 0 rfl (Nat.le_of_ble_eq_true rfl) fun ws hs => ?_
      refine zo_aload_n (i := i_Mo_send) (pc := 39) d_Mo_send_39 rfl rfl ?_
      refine zo_get (i := i_Mo_send) (pc := 40) 10 0 rfl zok_Mo (Nat.le_of_ble_eq_true rfl) (ztb_of k_858 rfl) d_Mo_send_40 (fun _ _ _ h => h) (hs.get (t := 0) rfl) rfl ?_
      refine zo_if_eq (i := i_Mo_send) (pc := 43) (tgt := 48) d_Mo_send_43 (by decide) (fun h43 => ?_) (fun h43 => False.elim (by first | exact absurd h43 (rfl) | exact absurd (rfl) h43))
      obtain ⟨m, F, hr, hs⟩ : mS g B q 0 R ws := ⟨_, _, hr.thrown, hs⟩
      obtain ⟨cc, a1, a2, a3, a4, a5, a6, a7, a8, a9, a10, a11, ar⟩ := id hi
      have hl5 := hr.2.2.1.2.1
      have t180 : ∀ (hp : Int32) (o3 o4 o5 o6 : Option Value) (ws : va_W), mS g B q 0 R ws → sendQ q a n = sendT q hp n → zW x0 g i_Mo_send 180 [some (.ref (B 0)), some (.int a), some (.int n), o3, o4, o5, o6] [.int hp] ws 0 0 := by
        intro hp o3 o4 o5 o6 ws hS he
        obtain ⟨m, F, hr, hs⟩ := hS
        refine zo_istore (i := i_Mo_send) (pc := 180) d_Mo_send_180 (Nat.le_of_ble_eq_true rfl) ?_
        refine zo_aload_n (i := i_Mo_send) (pc := 182) d_Mo_send_182 rfl rfl ?_
        refine zo_iload (i := i_Mo_send) (pc := 183) d_Mo_send_183 rfl ?_
        refine zc_V1 (i := i_Mo_send) (pc := 185) 10 rfl m_Mo_neighbourAt (ztb_of k_1012 rfl) (ztb_of k_1014 rfl) s_Mo_neighbourAt d_Mo_send_185 (Nat.le_of_ble_eq_true rfl) (Nat.le_of_ble_eq_true rfl) (Nat.le_of_ble_eq_true rfl) (Nat.le_of_ble_eq_true rfl) (hs.get (t := 0) rfl) (l_nbAt ⟨_, _, hr, hs⟩ (fun j x hx hxa hf hset hno => ?_) (fun hf => ?_))
        · obtain ⟨o19, o20, o21, o22, o23, o24, ho7⟩ := hr.nb hx
          refine zo_istore (i := i_Mo_send) (pc := 188) d_Mo_send_188 (Nat.le_of_ble_eq_true rfl) ?_
          refine zo_iload (i := i_Mo_send) (pc := 190) d_Mo_send_190 rfl ?_
          refine zo_if_ge (i := i_Mo_send) (pc := 192) (tgt := 211) d_Mo_send_192 (by decide) (fun h192 => ?_) (fun h192 => False.elim (by first | exact absurd h192 ((nI_pos' (by omega))) | exact absurd ((nI_pos' (by omega))) h192))
          refine zo_aload_n (i := i_Mo_send) (pc := 211) d_Mo_send_211 rfl rfl ?_
          refine zo_get (i := i_Mo_send) (pc := 212) 10 22 rfl zok_Mo (Nat.le_of_ble_eq_true rfl) (ztb_of k_880 rfl) d_Mo_send_212 (fun _ _ _ h => h) (hs.get (t := 0) rfl) rfl ?_
          refine zo_iload (i := i_Mo_send) (pc := 215) d_Mo_send_215 rfl ?_
          refine zo_iaload (i := i_Mo_send) (pc := 217) d_Mo_send_217 (hs.get (t := 12) rfl) (vp_in_nI (by omega) (by decide)) ?_
          refine zo_iconst (i := i_Mo_send) (pc := 218) (v := 1) d_Mo_send_218 (by decide) ?_
          refine zo_icmp_ne (i := i_Mo_send) (pc := 219) (tgt := 232) d_Mo_send_219 (by decide) (fun h219 => ?_) (fun h219 => ?_)
          · refine zo_aload_n (i := i_Mo_send) (pc := 232) d_Mo_send_232 rfl rfl ?_
            refine zo_iload (i := i_Mo_send) (pc := 233) d_Mo_send_233 rfl ?_
            refine zo_iload_n (i := i_Mo_send) (pc := 235) d_Mo_send_235 rfl ?_
            refine zc_V2 (i := i_Mo_send) (pc := 236) 10 rfl m_Mo_sendTo (ztb_of k_1024 rfl) (ztb_of k_1026 rfl) s_Mo_sendTo d_Mo_send_236 (Nat.le_of_ble_eq_true rfl) (Nat.le_of_ble_eq_true rfl) (Nat.le_of_ble_eq_true rfl) (Nat.le_of_ble_eq_true rfl) (hs.get (t := 0) rfl) (l_sendTo ⟨_, _, hr, hs⟩ (by omega) hx fun ws hS => ?_)
            refine zo_iconst (i := i_Mo_send) (pc := 239) (v := 0) d_Mo_send_239 (by decide) ?_
            refine zo_ireturn (i := i_Mo_send) (pc := 240) hq d_Mo_send_240 rfl (Nat.le_of_ble_eq_true rfl) (Nat.le_of_ble_eq_true rfl) ?_
            rw [o22] at h219
            have hTs : sendT q hp n = (0, tU (tN q (q.2.2.2.1.set j (ndD q.1.2.1 x))) (ouAdd q.2.1 4 x.1 n)) := by
              unfold sendT
              rw [hf]
              simp only
              rw [if_neg h219, hset]
            rw [hTs] at he
            have kk := k0 hg hdn ws
            rw [he] at kk
            exact kk hS
          · refine zo_aload_n (i := i_Mo_send) (pc := 222) d_Mo_send_222 rfl rfl ?_
            refine zo_get (i := i_Mo_send) (pc := 223) 10 24 rfl zok_Mo (Nat.le_of_ble_eq_true rfl) (ztb_of k_882 rfl) d_Mo_send_223 (fun _ _ _ h => h) (hs.get (t := 0) rfl) rfl ?_
            refine zo_iload (i := i_Mo_send) (pc := 226) d_Mo_send_226 rfl ?_
            refine zo_iload_n (i := i_Mo_send) (pc := 228) d_Mo_send_228 rfl ?_
            refine zh_iastore (i := i_Mo_send) (pc := 229) d_Mo_send_229 hs 14 rfl (vp_in_nI (by omega) (by decide)) fun ws hs => ?_
            refine zo_iconst (i := i_Mo_send) (pc := 230) (v := 1) d_Mo_send_230 (by decide) ?_
            refine zo_ireturn (i := i_Mo_send) (pc := 231) hq d_Mo_send_231 rfl (Nat.le_of_ble_eq_true rfl) (Nat.le_of_ble_eq_true rfl) ?_
            rw [o22] at h219
            have hTs : sendT q hp n = (1, tN q (q.2.2.2.1.set j (ndW x n))) := by
              unfold sendT
              rw [hf]
              simp only
              rw [if_pos h219, hset]
            rw [hTs] at he
            replace hs : zHas ws (moW g B m (mup F 24 (upd (F 24) (nI j).toNatClampNeg n)) ++ R) := hs
            rw [nI_clamp (show j < 2 ^ 31 by omega)] at hs
            have kk := k0 hg hdn ws
            rw [he] at kk
            exact kk ⟨_, _, hr.waits hx, hs⟩
        · refine zo_istore (i := i_Mo_send) (pc := 188) d_Mo_send_188 (Nat.le_of_ble_eq_true rfl) ?_
          refine zo_iload (i := i_Mo_send) (pc := 190) d_Mo_send_190 rfl ?_
          refine zo_if_ge (i := i_Mo_send) (pc := 192) (tgt := 211) d_Mo_send_192 (by decide) (fun h192 => False.elim (by first | exact absurd h192 ((by decide)) | exact absurd ((by decide)) h192)) (fun h192 => ?_)
          refine zo_aload_n (i := i_Mo_send) (pc := 195) d_Mo_send_195 rfl rfl ?_
          refine zo_iload (i := i_Mo_send) (pc := 196) d_Mo_send_196 rfl ?_
          refine zo_iconst (i := i_Mo_send) (pc := 198) (v := 1) d_Mo_send_198 (by decide) ?_
          refine zo_iconst (i := i_Mo_send) (pc := 199) (v := 0) d_Mo_send_199 (by decide) ?_
          refine zc_V3 (i := i_Mo_send) (pc := 200) 10 rfl m_Mo_makeNeighbour (ztb_of k_1016 rfl) (ztb_of k_1018 rfl) s_Mo_makeNeighbour d_Mo_send_200 (Nat.le_of_ble_eq_true rfl) (Nat.le_of_ble_eq_true rfl) (Nat.le_of_ble_eq_true rfl) (Nat.le_of_ble_eq_true rfl) (hs.get (t := 0) rfl) (l_makeNb ⟨_, _, hr, hs⟩ fun ws hS => ?_)
          obtain ⟨m, F, hr, hs⟩ := hS
          have hx : (tN q (zcap 6 q.2.2.2.1 ++ [(hp, 0, 1, q.1.2.1, false, 0)])).2.2.2.1[(zcap 6 q.2.2.2.1).length]? = some (hp, 0, 1, q.1.2.1, false, 0) := zlast _ _
          refine zo_istore (i := i_Mo_send) (pc := 203) d_Mo_send_203 (Nat.le_of_ble_eq_true rfl) ?_
          refine zo_aload_n (i := i_Mo_send) (pc := 205) d_Mo_send_205 rfl rfl ?_
          refine zo_iload (i := i_Mo_send) (pc := 206) d_Mo_send_206 rfl ?_
          refine zc_V1 (i := i_Mo_send) (pc := 208) 10 rfl m_Mo_ask (ztb_of k_980 rfl) (ztb_of k_982 rfl) s_Mo_ask d_Mo_send_208 (Nat.le_of_ble_eq_true rfl) (Nat.le_of_ble_eq_true rfl) (Nat.le_of_ble_eq_true rfl) (Nat.le_of_ble_eq_true rfl) (hs.get (t := 0) rfl) (l_ask ⟨_, _, hr, hs⟩ (by show q.2.1.1 < _; omega) hx fun ws hS => ?_)
          replace hS : mS g B (tU (tN q (zcap 6 q.2.2.2.1 ++ [(hp, 0, 1, q.1.2.1, false, 0)])) (ouAdd q.2.1 2 65535 hp)) 0 R ws := hS
          obtain ⟨m, F, hr, hs⟩ := hS
          have hx2 : (tU (tN q (zcap 6 q.2.2.2.1 ++ [(hp, 0, 1, q.1.2.1, false, 0)])) (ouAdd q.2.1 2 65535 hp)).2.2.2.1[(zcap 6 q.2.2.2.1).length]? = some (hp, 0, 1, q.1.2.1, false, 0) := zlast _ _
          obtain ⟨o19, o20, o21, o22, o23, o24, ho7⟩ := hr.nb hx2
          refine zo_aload_n (i := i_Mo_send) (pc := 211) d_Mo_send_211 rfl rfl ?_
          refine zo_get (i := i_Mo_send) (pc := 212) 10 22 rfl zok_Mo (Nat.le_of_ble_eq_true rfl) (ztb_of k_880 rfl) d_Mo_send_212 (fun _ _ _ h => h) (hs.get (t := 0) rfl) rfl ?_
          refine zo_iload (i := i_Mo_send) (pc := 215) d_Mo_send_215 rfl ?_
          refine zo_iaload (i := i_Mo_send) (pc := 217) d_Mo_send_217 (hs.get (t := 12) rfl) (vp_in_nI (by omega) (by decide)) ?_
          refine zo_iconst (i := i_Mo_send) (pc := 218) (v := 1) d_Mo_send_218 (by decide) ?_
          refine zo_icmp_ne (i := i_Mo_send) (pc := 219) (tgt := 232) d_Mo_send_219 (by decide) (fun h219 => False.elim (by first | exact absurd h219 ((show F 22 (nI (zcap 6 q.2.2.2.1).length).toNatClampNeg = 1 from o22)) | exact absurd ((show F 22 (nI (zcap 6 q.2.2.2.1).length).toNatClampNeg = 1 from o22)) h219)) (fun h219 => ?_)
          refine zo_aload_n (i := i_Mo_send) (pc := 222) d_Mo_send_222 rfl rfl ?_
          refine zo_get (i := i_Mo_send) (pc := 223) 10 24 rfl zok_Mo (Nat.le_of_ble_eq_true rfl) (ztb_of k_882 rfl) d_Mo_send_223 (fun _ _ _ h => h) (hs.get (t := 0) rfl) rfl ?_
          refine zo_iload (i := i_Mo_send) (pc := 226) d_Mo_send_226 rfl ?_
          refine zo_iload_n (i := i_Mo_send) (pc := 228) d_Mo_send_228 rfl ?_
          refine zh_iastore (i := i_Mo_send) (pc := 229) d_Mo_send_229 hs 14 rfl (vp_in_nI (by omega) (by decide)) fun ws hs => ?_
          refine zo_iconst (i := i_Mo_send) (pc := 230) (v := 1) d_Mo_send_230 (by decide) ?_
          refine zo_ireturn (i := i_Mo_send) (pc := 231) hq d_Mo_send_231 rfl (Nat.le_of_ble_eq_true rfl) (Nat.le_of_ble_eq_true rfl) ?_
          have hTs : sendT q hp n = (1, tU (tN q (zcap 6 q.2.2.2.1 ++ [(hp, 0, 1, q.1.2.1, false, n)])) (ouAdd q.2.1 2 65535 hp)) := by
            unfold sendT
            rw [hf]
          rw [hTs] at he
          replace hs : zHas ws (moW g B m (mup F 24 (upd (F 24) (nI (zcap 6 q.2.2.2.1).length).toNatClampNeg n)) ++ R) := hs
          rw [nI_clamp (show (zcap 6 q.2.2.2.1).length < 2 ^ 31 by omega)] at hs
          have hr2 := hr.waits (v := n) hx2
          have hse : (tU (tN q (zcap 6 q.2.2.2.1 ++ [(hp, 0, 1, q.1.2.1, false, 0)])) (ouAdd q.2.1 2 65535 hp)).2.2.2.1.set (zcap 6 q.2.2.2.1).length (ndW (hp, 0, 1, q.1.2.1, false, 0) n) = zcap 6 q.2.2.2.1 ++ [(hp, 0, 1, q.1.2.1, false, n)] := by
            show (zcap 6 q.2.2.2.1 ++ [(hp, 0, 1, q.1.2.1, false, 0)]).set (zcap 6 q.2.2.2.1).length (ndW (hp, 0, 1, q.1.2.1, false, 0) n) = _
            rw [List.set_append_right _ _ (Nat.le_refl _), Nat.sub_self]
            rfl
          rw [hse] at hr2
          have kk := k0 hg hdn ws
          rw [he] at kk
          exact kk ⟨_, _, hr2, hs⟩
      have t151 : ∀ (bn : Bool) (o3 : Option Value), onLinkT q a = bn → q.2.2.1.any (fun x : zOD => zusable x.2.2.1 && (zlocal x.1 == zlocal a)) = true → n ≤ sizeT q a → zW x0 g i_Mo_send 151 [some (.ref (B 0)), some (.int a), some (.int n), o3, some (.int (zb bn)), none, none] [] ws 0 0 := by
        intro bn o3 hbn h1 h2
        have he := sendQ_r h1 h2
        rw [hbn] at he
        cases bn
        · have z0 : (0 : Int32).toNatClampNeg = 0 := by decide
          have e25 : F 25 0 = nI q.2.2.2.2.1.length := (hr.2.2.2.2.1 0 (by omega)).1
          have hl3 : q.2.2.2.2.1.length ≤ 3 := (hr.2.2.2.2.1 0 (by omega)).2.1
          refine zo_iload (i := i_Mo_send) (pc := 151) d_Mo_send_151 rfl ?_
          refine zo_if_ne (i := i_Mo_send) (pc := 153) (tgt := 167) d_Mo_send_153 (by decide) (fun h153 => False.elim (by first | exact absurd h153 (rfl) | exact absurd (rfl) h153)) (fun h153 => ?_)
          refine zo_aload_n (i := i_Mo_send) (pc := 156) d_Mo_send_156 rfl rfl ?_
          refine zo_get (i := i_Mo_send) (pc := 157) 10 25 rfl zok_Mo (Nat.le_of_ble_eq_true rfl) (ztb_of k_883 rfl) d_Mo_send_157 (fun _ _ _ h => h) (hs.get (t := 0) rfl) rfl ?_
          refine zo_iconst (i := i_Mo_send) (pc := 160) (v := 0) d_Mo_send_160 (by decide) ?_
          refine zo_iaload (i := i_Mo_send) (pc := 161) d_Mo_send_161 (hs.get (t := 15) rfl) (by unfold vp_in; decide) ?_
          refine zo_if_ne (i := i_Mo_send) (pc := 162) (tgt := 167) d_Mo_send_162 (by decide) (fun h162 => ?_) (fun h162 => ?_)
          · have hro : q.2.2.2.2.1 ≠ [] := by
              intro hh
              rw [z0, e25, hh] at h162
              exact h162 rfl
            have hne := hopT_ne (nb := q.2.2.2.1) a10 hro
            rw [if_neg (show ¬ (false = true) by decide), if_neg hne] at he
            refine zo_iload (i := i_Mo_send) (pc := 167) d_Mo_send_167 rfl ?_
            refine zo_if_eq (i := i_Mo_send) (pc := 169) (tgt := 176) d_Mo_send_169 (by decide) (fun h169 => ?_) (fun h169 => False.elim (by first | exact absurd h169 (rfl) | exact absurd (rfl) h169))
            refine zo_aload_n (i := i_Mo_send) (pc := 176) d_Mo_send_176 rfl rfl ?_
            refine zc_V0 (i := i_Mo_send) (pc := 177) 10 rfl m_Mo_hop (ztb_of k_1089 rfl) (ztb_of k_1091 rfl) s_Mo_hop d_Mo_send_177 (Nat.le_of_ble_eq_true rfl) (Nat.le_of_ble_eq_true rfl) (Nat.le_of_ble_eq_true rfl) (Nat.le_of_ble_eq_true rfl) (hs.get (t := 0) rfl) (l_hop ⟨_, _, hr, hs⟩ hro ?_)
            exact t180 _ _ _ _ _ ws ⟨_, _, hr, hs⟩ he
          · refine zo_iconst (i := i_Mo_send) (pc := 165) (v := 3) d_Mo_send_165 (by decide) ?_
            refine zo_ireturn (i := i_Mo_send) (pc := 166) hq d_Mo_send_166 rfl (Nat.le_of_ble_eq_true rfl) (Nat.le_of_ble_eq_true rfl) ?_
            have hro : q.2.2.2.2.1 = [] := by
              rw [z0, e25] at h162
              have := (nI_eq (a := q.2.2.2.2.1.length) (b := 0) (by omega) (by omega)).mp h162
              exact List.length_eq_zero_iff.mp this
            rw [if_neg (show ¬ (false = true) by decide), hro, if_pos (show hopT [] q.2.2.2.1 = 0 from rfl)] at he
            have kk := k0 hg hdn ws
            rw [he] at kk
            exact kk ⟨_, _, hr, hs⟩
        · rw [if_pos (show true = true from rfl), if_neg (zaddr_ne0 hg.1)] at he
          refine zo_iload (i := i_Mo_send) (pc := 151) d_Mo_send_151 rfl ?_
          refine zo_if_ne (i := i_Mo_send) (pc := 153) (tgt := 167) d_Mo_send_153 (by decide) (fun h153 => ?_) (fun h153 => False.elim (by first | exact absurd h153 ((by decide)) | exact absurd ((by decide)) h153))
          refine zo_iload (i := i_Mo_send) (pc := 167) d_Mo_send_167 rfl ?_
          refine zo_if_eq (i := i_Mo_send) (pc := 169) (tgt := 176) d_Mo_send_169 (by decide) (fun h169 => False.elim (by first | exact absurd h169 ((by decide)) | exact absurd ((by decide)) h169)) (fun h169 => ?_)
          refine zo_iload_n (i := i_Mo_send) (pc := 172) d_Mo_send_172 rfl ?_
          refine zo_goto (i := i_Mo_send) (pc := 173) (tgt := 180) d_Mo_send_173 (by decide) ?_
          exact t180 _ _ _ _ _ ws ⟨_, _, hr, hs⟩ he
      have t106 : ∀ (b : Bool) (o4 : Option Value), q.2.2.1.any (fun x : zOD => zusable x.2.2.1 && (zlocal x.1 == zlocal a)) = b → zW x0 g i_Mo_send 106 [some (.ref (B 0)), some (.int a), some (.int n), some (.int (zb b)), o4, none, none] [] ws 0 0 := by
        intro b o4 hb
        refine zo_iload_n (i := i_Mo_send) (pc := 106) d_Mo_send_106 rfl ?_
        refine zo_if_ne (i := i_Mo_send) (pc := 107) (tgt := 112) d_Mo_send_107 (by decide) (fun h107 => ?_) (fun h107 => ?_)
        · have h1 := hb.trans (zb_ne h107)
          refine zo_iload_n (i := i_Mo_send) (pc := 112) d_Mo_send_112 rfl ?_
          refine zo_aload_n (i := i_Mo_send) (pc := 113) d_Mo_send_113 rfl rfl ?_
          refine zo_iload_n (i := i_Mo_send) (pc := 114) d_Mo_send_114 rfl ?_
          refine zc_V1 (i := i_Mo_send) (pc := 115) 10 rfl m_Mo_sizeFor (ztb_of k_1085 rfl) (ztb_of k_1087 rfl) s_Mo_sizeFor d_Mo_send_115 (Nat.le_of_ble_eq_true rfl) (Nat.le_of_ble_eq_true rfl) (Nat.le_of_ble_eq_true rfl) (Nat.le_of_ble_eq_true rfl) (hs.get (t := 0) rfl) (l_sizeFor ⟨_, _, hr, hs⟩ ?_)
          refine zo_icmp_le (i := i_Mo_send) (pc := 118) (tgt := 123) d_Mo_send_118 (by decide) (fun h118 => ?_) (fun h118 => ?_)
          · refine zo_aload_n (i := i_Mo_send) (pc := 123) d_Mo_send_123 rfl rfl ?_
            refine zo_iload_n (i := i_Mo_send) (pc := 124) d_Mo_send_124 rfl ?_
            refine zc_V1 (i := i_Mo_send) (pc := 125) 10 rfl m_Mo_isLocal (ztb_of k_1065 rfl) (ztb_of k_1067 rfl) s_Mo_isLocal d_Mo_send_125 (Nat.le_of_ble_eq_true rfl) (Nat.le_of_ble_eq_true rfl) (Nat.le_of_ble_eq_true rfl) (Nat.le_of_ble_eq_true rfl) (hs.get (t := 0) rfl) (c_Mo_isLocal ?_)
            refine zo_if_ne (i := i_Mo_send) (pc := 128) (tgt := 144) d_Mo_send_128 (by decide) (fun h128 => ?_) (fun h128 => ?_)
            · refine zo_iconst (i := i_Mo_send) (pc := 144) (v := 1) d_Mo_send_144 (by decide) ?_
              refine zo_goto (i := i_Mo_send) (pc := 145) (tgt := 149) d_Mo_send_145 (by decide) ?_
              refine zo_istore (i := i_Mo_send) (pc := 149) d_Mo_send_149 (Nat.le_of_ble_eq_true rfl) ?_
              refine t151 true _ ?_ h1 h118
              unfold onLinkT
              rw [zb_ne h128]
              rfl
            · refine zo_aload_n (i := i_Mo_send) (pc := 131) d_Mo_send_131 rfl rfl ?_
              refine zo_iconst (i := i_Mo_send) (pc := 132) (v := 1) d_Mo_send_132 (by decide) ?_
              refine zo_iload_n (i := i_Mo_send) (pc := 133) d_Mo_send_133 rfl ?_
              refine zo_sipush (i := i_Mo_send) (pc := 134) (v := 256) d_Mo_send_134 (by decide) ?_
              refine zo_idiv (i := i_Mo_send) (pc := 137) d_Mo_send_137 (by decide) ?_
              refine zc_V2 (i := i_Mo_send) (pc := 138) 10 rfl m_Mo_entryAt (ztb_of k_1032 rfl) (ztb_of k_1034 rfl) s_Mo_entryAt d_Mo_send_138 (Nat.le_of_ble_eq_true rfl) (Nat.le_of_ble_eq_true rfl) (Nat.le_of_ble_eq_true rfl) (Nat.le_of_ble_eq_true rfl) (hs.get (t := 0) rfl) (l_entryAt (c := 1) ⟨_, _, hr, hs⟩ (by omega) (fun j x hx hxa hf hset => ?_) (fun hf => ?_))
              · refine zo_if_lt (i := i_Mo_send) (pc := 141) (tgt := 148) d_Mo_send_141 (by decide) (fun h141 => False.elim (by first | exact absurd h141 ((nI_pos (by have := (hr.2.2.2.2.1 1 (by omega)).2.1; have := len_of hx; have := cap_le 1; omega))) | exact absurd ((nI_pos (by have := (hr.2.2.2.2.1 1 (by omega)).2.1; have := len_of hx; have := cap_le 1; omega))) h141)) (fun h141 => ?_)
                refine zo_iconst (i := i_Mo_send) (pc := 144) (v := 1) d_Mo_send_144 (by decide) ?_
                refine zo_goto (i := i_Mo_send) (pc := 145) (tgt := 149) d_Mo_send_145 (by decide) ?_
                refine zo_istore (i := i_Mo_send) (pc := 149) d_Mo_send_149 (Nat.le_of_ble_eq_true rfl) ?_
                refine t151 true _ ?_ h1 h118
                unfold onLinkT
                rw [show q.2.2.2.2.2.1.find? (fun e => decide (e.1 = a / 256)) = some x from hf]
                exact Bool.or_true _
              · refine zo_if_lt (i := i_Mo_send) (pc := 141) (tgt := 148) d_Mo_send_141 (by decide) (fun h141 => ?_) (fun h141 => False.elim (by first | exact absurd h141 ((by decide)) | exact absurd ((by decide)) h141))
                refine zo_iconst (i := i_Mo_send) (pc := 148) (v := 0) d_Mo_send_148 (by decide) ?_
                refine zo_istore (i := i_Mo_send) (pc := 149) d_Mo_send_149 (Nat.le_of_ble_eq_true rfl) ?_
                refine t151 false _ ?_ h1 h118
                unfold onLinkT
                rw [show q.2.2.2.2.2.1.find? (fun e => decide (e.1 = a / 256)) = none from hf, zb_eq h128]
                rfl
          · refine zo_iconst (i := i_Mo_send) (pc := 121) (v := 2) d_Mo_send_121 (by decide) ?_
            refine zo_ireturn (i := i_Mo_send) (pc := 122) hq d_Mo_send_122 rfl (Nat.le_of_ble_eq_true rfl) (Nat.le_of_ble_eq_true rfl) ?_
            have he := sendQ_2 (n := n) h1 h118
            have kk := k0 hg hdn ws
            rw [he] at kk
            exact kk ⟨_, _, hr, hs⟩
        · refine zo_iconst (i := i_Mo_send) (pc := 110) (v := 4) d_Mo_send_110 (by decide) ?_
          refine zo_ireturn (i := i_Mo_send) (pc := 111) hq d_Mo_send_111 rfl (Nat.le_of_ble_eq_true rfl) (Nat.le_of_ble_eq_true rfl) ?_
          have he := sendQ_4 (n := n) (hb.trans (zb_eq h107))
          have kk := k0 hg hdn ws
          rw [he] at kk
          exact kk ⟨_, _, hr, hs⟩
      have loop : ∀ (rest done : List zOD) (b : Bool), q.2.2.1 = done ++ rest → done.any (fun x : zOD => zusable x.2.2.1 && (zlocal x.1 == zlocal a)) = b → zW x0 g i_Mo_send 53 [some (.ref (B 0)), some (.int a), some (.int n), some (.int (zb b)), some (.int (nI done.length)), none, none] [] ws 0 0 := by
        intro rest
        induction rest with
        | nil =>
          intro done b hq1 hb
          rw [List.append_nil] at hq1
          rw [← hq1] at hb ⊢
          refine zo_iload (i := i_Mo_send) (pc := 53) d_Mo_send_53 rfl ?_
          refine zo_aload_n (i := i_Mo_send) (pc := 55) d_Mo_send_55 rfl rfl ?_
          refine zo_get (i := i_Mo_send) (pc := 56) 10 12 rfl zok_Mo (Nat.le_of_ble_eq_true rfl) (ztb_of k_870 rfl) d_Mo_send_56 (fun _ _ _ h => h) (hs.get (t := 0) rfl) rfl ?_
          refine zo_icmp_ge (i := i_Mo_send) (pc := 59) (tgt := 106) d_Mo_send_59 (by decide) (fun h59 => ?_) (fun h59 => False.elim (by first | exact absurd h59 ((by rw [hr.2.2.1.1]; exact nI_le (Nat.le_refl _) (by omega))) | exact absurd ((by rw [hr.2.2.1.1]; exact nI_le (Nat.le_refl _) (by omega))) h59))
          exact t106 b _ hb
        | cons x r ih =>
          intro done b hq1 hb
          have hll : done.length + (r.length + 1) = q.2.2.1.length := by rw [hq1, List.length_append, List.length_cons]
          have hx : q.2.2.1[done.length]? = some x := by rw [hq1]; exact mid done r x
          obtain ⟨o13, o14, o15, o16, o17, ho6⟩ := hr.ow hx
          have hn1 : nI (done.length + 1) = nI (done ++ [x]).length := by rw [List.length_append]; rfl
          have hany : (done ++ [x]).any (fun x : zOD => zusable x.2.2.1 && (zlocal x.1 == zlocal a)) = (b || (zusable x.2.2.1 && (zlocal x.1 == zlocal a))) := by rw [List.any_append, hb, List.any_cons, List.any_nil, Bool.or_false]
          refine zo_iload (i := i_Mo_send) (pc := 53) d_Mo_send_53 rfl ?_
          refine zo_aload_n (i := i_Mo_send) (pc := 55) d_Mo_send_55 rfl rfl ?_
          refine zo_get (i := i_Mo_send) (pc := 56) 10 12 rfl zok_Mo (Nat.le_of_ble_eq_true rfl) (ztb_of k_870 rfl) d_Mo_send_56 (fun _ _ _ h => h) (hs.get (t := 0) rfl) rfl ?_
          refine zo_icmp_ge (i := i_Mo_send) (pc := 59) (tgt := 106) d_Mo_send_59 (by decide) (fun h59 => False.elim (by first | exact absurd h59 ((by rw [hr.2.2.1.1]; exact nI_ge (by omega) (by omega))) | exact absurd ((by rw [hr.2.2.1.1]; exact nI_ge (by omega) (by omega))) h59)) (fun h59 => ?_)
          refine zo_iload_n (i := i_Mo_send) (pc := 62) d_Mo_send_62 rfl ?_
          refine zo_if_ne (i := i_Mo_send) (pc := 63) (tgt := 94) d_Mo_send_63 (by decide) (fun h63 => ?_) (fun h63 => ?_)
          · refine zo_iconst (i := i_Mo_send) (pc := 94) (v := 1) d_Mo_send_94 (by decide) ?_
            refine zo_goto (i := i_Mo_send) (pc := 95) (tgt := 99) d_Mo_send_95 (by decide) ?_
            refine zo_istore_n (i := i_Mo_send) (pc := 99) d_Mo_send_99 (Nat.le_of_ble_eq_true rfl) ?_
            refine zo_iinc (i := i_Mo_send) (pc := 100) (v := nI (done.length + 1)) d_Mo_send_100 rfl (nI_inc done.length) (Nat.le_of_ble_eq_true rfl) ?_
            refine zo_goto (i := i_Mo_send) (pc := 103) (tgt := 53) d_Mo_send_103 (by decide) ?_
            rw [hn1]
            exact ih (done ++ [x]) true (by rw [hq1, mid_next]) (by rw [hany, zb_ne h63]; rfl)
          · refine zo_aload_n (i := i_Mo_send) (pc := 66) d_Mo_send_66 rfl rfl ?_
            refine zo_iload (i := i_Mo_send) (pc := 67) d_Mo_send_67 rfl ?_
            refine zc_V1 (i := i_Mo_send) (pc := 69) 10 rfl m_Mo_usable (ztb_of k_1069 rfl) (ztb_of k_1071 rfl) s_Mo_usable d_Mo_send_69 (Nat.le_of_ble_eq_true rfl) (Nat.le_of_ble_eq_true rfl) (Nat.le_of_ble_eq_true rfl) (Nat.le_of_ble_eq_true rfl) (hs.get (t := 0) rfl) (l_usable ⟨_, _, hr, hs⟩ hx ?_)
            refine zo_if_eq (i := i_Mo_send) (pc := 72) (tgt := 98) d_Mo_send_72 (by decide) (fun h72 => ?_) (fun h72 => ?_)
            · refine zo_iconst (i := i_Mo_send) (pc := 98) (v := 0) d_Mo_send_98 (by decide) ?_
              refine zo_istore_n (i := i_Mo_send) (pc := 99) d_Mo_send_99 (Nat.le_of_ble_eq_true rfl) ?_
              refine zo_iinc (i := i_Mo_send) (pc := 100) (v := nI (done.length + 1)) d_Mo_send_100 rfl (nI_inc done.length) (Nat.le_of_ble_eq_true rfl) ?_
              refine zo_goto (i := i_Mo_send) (pc := 103) (tgt := 53) d_Mo_send_103 (by decide) ?_
              rw [hn1]
              exact ih (done ++ [x]) false (by rw [hq1, mid_next]) (by rw [hany, zb_eq h63, zb_eq h72]; rfl)
            · refine zo_aload_n (i := i_Mo_send) (pc := 75) d_Mo_send_75 rfl rfl ?_
              refine zo_aload_n (i := i_Mo_send) (pc := 76) d_Mo_send_76 rfl rfl ?_
              refine zo_get (i := i_Mo_send) (pc := 77) 10 13 rfl zok_Mo (Nat.le_of_ble_eq_true rfl) (ztb_of k_871 rfl) d_Mo_send_77 (fun _ _ _ h => h) (hs.get (t := 0) rfl) rfl ?_
              refine zo_iload (i := i_Mo_send) (pc := 80) d_Mo_send_80 rfl ?_
              refine zo_iaload (i := i_Mo_send) (pc := 82) d_Mo_send_82 (hs.get (t := 4) rfl) (vp_in_nI (by omega) (by decide)) ?_
              refine zc_V1 (i := i_Mo_send) (pc := 83) 10 rfl m_Mo_isLocal (ztb_of k_1065 rfl) (ztb_of k_1067 rfl) s_Mo_isLocal d_Mo_send_83 (Nat.le_of_ble_eq_true rfl) (Nat.le_of_ble_eq_true rfl) (Nat.le_of_ble_eq_true rfl) (Nat.le_of_ble_eq_true rfl) (hs.get (t := 0) rfl) (c_Mo_isLocal ?_)
              refine zo_aload_n (i := i_Mo_send) (pc := 86) d_Mo_send_86 rfl rfl ?_
              refine zo_iload_n (i := i_Mo_send) (pc := 87) d_Mo_send_87 rfl ?_
              refine zc_V1 (i := i_Mo_send) (pc := 88) 10 rfl m_Mo_isLocal (ztb_of k_1065 rfl) (ztb_of k_1067 rfl) s_Mo_isLocal d_Mo_send_88 (Nat.le_of_ble_eq_true rfl) (Nat.le_of_ble_eq_true rfl) (Nat.le_of_ble_eq_true rfl) (Nat.le_of_ble_eq_true rfl) (hs.get (t := 0) rfl) (c_Mo_isLocal ?_)
              refine zo_icmp_ne (i := i_Mo_send) (pc := 91) (tgt := 98) d_Mo_send_91 (by decide) (fun h91 => ?_) (fun h91 => ?_)
              · refine zo_iconst (i := i_Mo_send) (pc := 98) (v := 0) d_Mo_send_98 (by decide) ?_
                refine zo_istore_n (i := i_Mo_send) (pc := 99) d_Mo_send_99 (Nat.le_of_ble_eq_true rfl) ?_
                refine zo_iinc (i := i_Mo_send) (pc := 100) (v := nI (done.length + 1)) d_Mo_send_100 rfl (nI_inc done.length) (Nat.le_of_ble_eq_true rfl) ?_
                refine zo_goto (i := i_Mo_send) (pc := 103) (tgt := 53) d_Mo_send_103 (by decide) ?_
                rw [hn1]
                exact ih (done ++ [x]) false (by rw [hq1, mid_next]) (by rw [o13] at h91; rw [hany, zb_eq h63, zb_ne h72, Bool.false_or, Bool.true_and]; exact beq_eq_false_iff_ne.mpr (fun hh => h91 (by rw [hh])))
              · refine zo_iconst (i := i_Mo_send) (pc := 94) (v := 1) d_Mo_send_94 (by decide) ?_
                refine zo_goto (i := i_Mo_send) (pc := 95) (tgt := 99) d_Mo_send_95 (by decide) ?_
                refine zo_istore_n (i := i_Mo_send) (pc := 99) d_Mo_send_99 (Nat.le_of_ble_eq_true rfl) ?_
                refine zo_iinc (i := i_Mo_send) (pc := 100) (v := nI (done.length + 1)) d_Mo_send_100 rfl (nI_inc done.length) (Nat.le_of_ble_eq_true rfl) ?_
                refine zo_goto (i := i_Mo_send) (pc := 103) (tgt := 53) d_Mo_send_103 (by decide) ?_
                rw [hn1]
                exact ih (done ++ [x]) true (by rw [hq1, mid_next]) (by rw [o13] at h91; rw [hany, zb_ne h72, zb_inj.mp h91, beq_self_eq_true]; exact Bool.or_true _)
      refine zo_iconst (i := i_Mo_send) (pc := 48) (v := 0) d_Mo_send_48 (by decide) ?_
      refine zo_istore_n (i := i_Mo_send) (pc := 49) d_Mo_send_49 (Nat.le_of_ble_eq_true rfl) ?_
      refine zo_iconst (i := i_Mo_send) (pc := 50) (v := 0) d_Mo_send_50 (by decide) ?_
      rw [← nI_0]
      refine zo_istore (i := i_Mo_send) (pc := 51) d_Mo_send_51 (Nat.le_of_ble_eq_true rfl) ?_
      refine loop q.2.2.1 [] false rfl rfl
    · refine zo_aload_n (i := i_Mo_send) (pc := 0) d_Mo_send_0 rfl rfl ?_
      refine zo_aload_n (i := i_Mo_send) (pc := 1) d_Mo_send_1 rfl rfl ?_
      refine zo_iload_n (i := i_Mo_send) (pc := 2) d_Mo_send_2 rfl ?_
      refine zc_V1 (i := i_Mo_send) (pc := 3) 10 rfl m_Mo_isAddress (ztb_of k_1056 rfl) (ztb_of k_1058 rfl) s_Mo_isAddress d_Mo_send_3 (Nat.le_of_ble_eq_true rfl) (Nat.le_of_ble_eq_true rfl) (Nat.le_of_ble_eq_true rfl) (Nat.le_of_ble_eq_true rfl) (hs.get (t := 0) rfl) (c_Mo_isAddress ?_)
      refine zo_if_eq (i := i_Mo_send) (pc := 6) (tgt := 20) d_Mo_send_6 (by decide) (fun h6 => False.elim (by first | exact absurd h6 ((by rw [hg.1]; decide)) | exact absurd ((by rw [hg.1]; decide)) h6)) (fun h6 => ?_)
      refine zo_iload_n (i := i_Mo_send) (pc := 9) d_Mo_send_9 rfl ?_
      refine zo_iconst (i := i_Mo_send) (pc := 10) (v := 1) d_Mo_send_10 (by decide) ?_
      refine zo_icmp_lt (i := i_Mo_send) (pc := 11) (tgt := 20) d_Mo_send_11 (by decide) (fun h11 => False.elim (by first | exact absurd h11 ((zw_iff.mp hg.2).1) | exact absurd ((zw_iff.mp hg.2).1) h11)) (fun h11 => ?_)
      refine zo_iload_n (i := i_Mo_send) (pc := 14) d_Mo_send_14 rfl ?_
      refine zo_bipush (i := i_Mo_send) (pc := 15) (v := 40) d_Mo_send_15 (by decide) ?_
      refine zo_icmp_le (i := i_Mo_send) (pc := 17) (tgt := 24) d_Mo_send_17 (by decide) (fun h17 => ?_) (fun h17 => False.elim (by first | exact absurd h17 ((Int32.not_lt.mp (zw_iff.mp hg.2).2)) | exact absurd ((Int32.not_lt.mp (zw_iff.mp hg.2).2)) h17))
      refine zo_aload_n (i := i_Mo_send) (pc := 24) d_Mo_send_24 rfl rfl ?_
      refine zo_get (i := i_Mo_send) (pc := 25) 10 3 rfl zok_Mo (Nat.le_of_ble_eq_true rfl) (ztb_of k_861 rfl) d_Mo_send_25 (fun _ _ _ h => h) (hs.get (t := 0) rfl) rfl ?_
      refine zo_if_eq (i := i_Mo_send) (pc := 28) (tgt := 35) d_Mo_send_28 (by decide) (fun h28 => False.elim (by first | exact absurd h28 ((by rw [hr.1.2.2.2.1, hdn]; decide)) | exact absurd ((by rw [hr.1.2.2.2.1, hdn]; decide)) h28)) (fun h28 => ?_)
      refine zo_iconst (i := i_Mo_send) (pc := 31) (v := 2) d_Mo_send_31 (by decide) ?_
      refine zo_goto (i := i_Mo_send) (pc := 32) (tgt := 36) d_Mo_send_32 (by decide) ?_
      refine zh_put (i := i_Mo_send) (pc := 36) 10 0 rfl zok_Mo (Nat.le_of_ble_eq_true rfl) (ztb_of k_858 rfl) rfl d_Mo_send_36 (fun _ _ _ h => h) (t_Mo_ok 0 (Nat.le_of_ble_eq_true rfl)) rfl rfl hs 0 rfl (Nat.le_of_ble_eq_true rfl) fun ws hs => ?_
      refine zo_aload_n (i := i_Mo_send) (pc := 39) d_Mo_send_39 rfl rfl ?_
      refine zo_get (i := i_Mo_send) (pc := 40) 10 0 rfl zok_Mo (Nat.le_of_ble_eq_true rfl) (ztb_of k_858 rfl) d_Mo_send_40 (fun _ _ _ h => h) (hs.get (t := 0) rfl) rfl ?_
      refine zo_if_eq (i := i_Mo_send) (pc := 43) (tgt := 48) d_Mo_send_43 (by decide) (fun h43 => False.elim (by first | exact absurd h43 ((by decide)) | exact absurd ((by decide)) h43)) (fun h43 => ?_)
      refine zo_iconst (i := i_Mo_send) (pc := 46) (v := 0) d_Mo_send_46 (by decide) ?_
      refine zo_ireturn (i := i_Mo_send) (pc := 47) hq d_Mo_send_47 rfl (Nat.le_of_ble_eq_true rfl) (Nat.le_of_ble_eq_true rfl) ?_
      exact k2 hg hdn ws ⟨_, _, hr.thrown, hs⟩
  · refine zo_aload_n (i := i_Mo_send) (pc := 0) d_Mo_send_0 rfl rfl ?_
    refine zo_aload_n (i := i_Mo_send) (pc := 1) d_Mo_send_1 rfl rfl ?_
    refine zo_iload_n (i := i_Mo_send) (pc := 2) d_Mo_send_2 rfl ?_
    refine zc_V1 (i := i_Mo_send) (pc := 3) 10 rfl m_Mo_isAddress (ztb_of k_1056 rfl) (ztb_of k_1058 rfl) s_Mo_isAddress d_Mo_send_3 (Nat.le_of_ble_eq_true rfl) (Nat.le_of_ble_eq_true rfl) (Nat.le_of_ble_eq_true rfl) (Nat.le_of_ble_eq_true rfl) (hs.get (t := 0) rfl) (c_Mo_isAddress ?_)
    refine zo_if_eq (i := i_Mo_send) (pc := 6) (tgt := 20) d_Mo_send_6 (by decide) (fun h6 => ?_) (fun h6 => ?_)
    · refine zo_iconst (i := i_Mo_send) (pc := 20) (v := 1) d_Mo_send_20 (by decide) ?_
      refine zo_goto (i := i_Mo_send) (pc := 21) (tgt := 36) d_Mo_send_21 (by decide) ?_
      refine zh_put (i := i_Mo_send) (pc := 36) 10 0 rfl zok_Mo (Nat.le_of_ble_eq_true rfl) (ztb_of k_858 rfl) rfl d_Mo_send_36 (fun _ _ _ h => h) (t_Mo_ok 0 (Nat.le_of_ble_eq_true rfl)) rfl rfl hs 0 rfl (Nat.le_of_ble_eq_true rfl) fun ws hs => ?_
      refine zo_aload_n (i := i_Mo_send) (pc := 39) d_Mo_send_39 rfl rfl ?_
      refine zo_get (i := i_Mo_send) (pc := 40) 10 0 rfl zok_Mo (Nat.le_of_ble_eq_true rfl) (ztb_of k_858 rfl) d_Mo_send_40 (fun _ _ _ h => h) (hs.get (t := 0) rfl) rfl ?_
      refine zo_if_eq (i := i_Mo_send) (pc := 43) (tgt := 48) d_Mo_send_43 (by decide) (fun h43 => False.elim (by first | exact absurd h43 ((by decide)) | exact absurd ((by decide)) h43)) (fun h43 => ?_)
      refine zo_iconst (i := i_Mo_send) (pc := 46) (v := 0) d_Mo_send_46 (by decide) ?_
      refine zo_ireturn (i := i_Mo_send) (pc := 47) hq d_Mo_send_47 rfl (Nat.le_of_ble_eq_true rfl) (Nat.le_of_ble_eq_true rfl) ?_
      exact k1 hg ws ⟨_, _, hr.thrown, hs⟩
    · refine zo_iload_n (i := i_Mo_send) (pc := 9) d_Mo_send_9 rfl ?_
      refine zo_iconst (i := i_Mo_send) (pc := 10) (v := 1) d_Mo_send_10 (by decide) ?_
      refine zo_icmp_lt (i := i_Mo_send) (pc := 11) (tgt := 20) d_Mo_send_11 (by decide) (fun h11 => ?_) (fun h11 => ?_)
      · refine zo_iconst (i := i_Mo_send) (pc := 20) (v := 1) d_Mo_send_20 (by decide) ?_
        refine zo_goto (i := i_Mo_send) (pc := 21) (tgt := 36) d_Mo_send_21 (by decide) ?_
        refine zh_put (i := i_Mo_send) (pc := 36) 10 0 rfl zok_Mo (Nat.le_of_ble_eq_true rfl) (ztb_of k_858 rfl) rfl d_Mo_send_36 (fun _ _ _ h => h) (t_Mo_ok 0 (Nat.le_of_ble_eq_true rfl)) rfl rfl hs 0 rfl (Nat.le_of_ble_eq_true rfl) fun ws hs => ?_
        refine zo_aload_n (i := i_Mo_send) (pc := 39) d_Mo_send_39 rfl rfl ?_
        refine zo_get (i := i_Mo_send) (pc := 40) 10 0 rfl zok_Mo (Nat.le_of_ble_eq_true rfl) (ztb_of k_858 rfl) d_Mo_send_40 (fun _ _ _ h => h) (hs.get (t := 0) rfl) rfl ?_
        refine zo_if_eq (i := i_Mo_send) (pc := 43) (tgt := 48) d_Mo_send_43 (by decide) (fun h43 => False.elim (by first | exact absurd h43 ((by decide)) | exact absurd ((by decide)) h43)) (fun h43 => ?_)
        refine zo_iconst (i := i_Mo_send) (pc := 46) (v := 0) d_Mo_send_46 (by decide) ?_
        refine zo_ireturn (i := i_Mo_send) (pc := 47) hq d_Mo_send_47 rfl (Nat.le_of_ble_eq_true rfl) (Nat.le_of_ble_eq_true rfl) ?_
        exact k1 hg ws ⟨_, _, hr.thrown, hs⟩
      · refine zo_iload_n (i := i_Mo_send) (pc := 14) d_Mo_send_14 rfl ?_
        refine zo_bipush (i := i_Mo_send) (pc := 15) (v := 40) d_Mo_send_15 (by decide) ?_
        refine zo_icmp_le (i := i_Mo_send) (pc := 17) (tgt := 24) d_Mo_send_17 (by decide) (fun h17 => False.elim (by first | exact absurd h17 ((fun hh => hg ⟨zb_ne h6, zw_iff.mpr ⟨h11, Int32.not_lt.mpr hh⟩⟩)) | exact absurd ((fun hh => hg ⟨zb_ne h6, zw_iff.mpr ⟨h11, Int32.not_lt.mpr hh⟩⟩)) h17)) (fun h17 => ?_)
        refine zo_iconst (i := i_Mo_send) (pc := 20) (v := 1) d_Mo_send_20 (by decide) ?_
        refine zo_goto (i := i_Mo_send) (pc := 21) (tgt := 36) d_Mo_send_21 (by decide) ?_
        refine zh_put (i := i_Mo_send) (pc := 36) 10 0 rfl zok_Mo (Nat.le_of_ble_eq_true rfl) (ztb_of k_858 rfl) rfl d_Mo_send_36 (fun _ _ _ h => h) (t_Mo_ok 0 (Nat.le_of_ble_eq_true rfl)) rfl rfl hs 0 rfl (Nat.le_of_ble_eq_true rfl) fun ws hs => ?_
        refine zo_aload_n (i := i_Mo_send) (pc := 39) d_Mo_send_39 rfl rfl ?_
        refine zo_get (i := i_Mo_send) (pc := 40) 10 0 rfl zok_Mo (Nat.le_of_ble_eq_true rfl) (ztb_of k_858 rfl) d_Mo_send_40 (fun _ _ _ h => h) (hs.get (t := 0) rfl) rfl ?_
        refine zo_if_eq (i := i_Mo_send) (pc := 43) (tgt := 48) d_Mo_send_43 (by decide) (fun h43 => False.elim (by first | exact absurd h43 ((by decide)) | exact absurd ((by decide)) h43)) (fun h43 => ?_)
        refine zo_iconst (i := i_Mo_send) (pc := 46) (v := 0) d_Mo_send_46 (by decide) ?_
        refine zo_ireturn (i := i_Mo_send) (pc := 47) hq d_Mo_send_47 rfl (Nat.le_of_ble_eq_true rfl) (Nat.le_of_ble_eq_true rfl) ?_
        exact k1 hg ws ⟨_, _, hr.thrown, hs⟩
theorem l_smaller {g : zG} {ws : va_W} {post : Option Value → va_W → Prop} {B : Nat → Nat} {q : hT} {t : Int32} {R : va_W} (h : mS g B q t R ws) {a n : Int32} {T U : Nat} (hi : hI q T U) (k0 : (zaddr a = true ∧ zwithin n 0 40 = true) → q.1.2.2.2.2.2.2 = false → ∀ w, mS g B (smallT q a n) 0 R w → post none w) (k1 : ¬ (zaddr a = true ∧ zwithin n 0 40 = true) → ∀ w, mS g B q 1 R w → post none w) (k2 : (zaddr a = true ∧ zwithin n 0 40 = true) → q.1.2.2.2.2.2.2 = true → ∀ w, mS g B q 2 R w → post none w) : zC g i_Mo_smaller [.ref (B 0), .int a, .int n] ws post := by
  refine zC.intro (by decide +kernel) rfl (Nat.le_of_ble_eq_true rfl) fun x0 hq => ?_
  obtain ⟨m, F, hr, hs⟩ := h
  by_cases hg : zaddr a = true ∧ zwithin n 0 40 = true
  · cases hdn : q.1.2.2.2.2.2.2
    · refine zo_aload_n (i := i_Mo_smaller) (pc := 0) d_Mo_smaller_0 rfl rfl ?_
      refine zo_aload_n (i := i_Mo_smaller) (pc := 1) d_Mo_smaller_1 rfl rfl ?_
      refine zo_iload_n (i := i_Mo_smaller) (pc := 2) d_Mo_smaller_2 rfl ?_
      refine zc_V1 (i := i_Mo_smaller) (pc := 3) 10 rfl m_Mo_isAddress (ztb_of k_1056 rfl) (ztb_of k_1058 rfl) s_Mo_isAddress d_Mo_smaller_3 (Nat.le_of_ble_eq_true rfl) (Nat.le_of_ble_eq_true rfl) (Nat.le_of_ble_eq_true rfl) (Nat.le_of_ble_eq_true rfl) (hs.get (t := 0) rfl) (c_Mo_isAddress ?_)
      refine zo_if_eq (i := i_Mo_smaller) (pc := 6) (tgt := 19) d_Mo_smaller_6 (by decide) (fun h6 => False.elim (by first | exact absurd h6 ((by rw [hg.1]; decide)) | exact absurd ((by rw [hg.1]; decide)) h6)) (fun h6 => ?_)
      refine zo_iload_n (i := i_Mo_smaller) (pc := 9) d_Mo_smaller_9 rfl ?_
      refine zo_if_lt (i := i_Mo_smaller) (pc := 10) (tgt := 19) d_Mo_smaller_10 (by decide) (fun h10 => False.elim (by first | exact absurd h10 ((zw_iff.mp hg.2).1) | exact absurd ((zw_iff.mp hg.2).1) h10)) (fun h10 => ?_)
      refine zo_iload_n (i := i_Mo_smaller) (pc := 13) d_Mo_smaller_13 rfl ?_
      refine zo_bipush (i := i_Mo_smaller) (pc := 14) (v := 40) d_Mo_smaller_14 (by decide) ?_
      refine zo_icmp_le (i := i_Mo_smaller) (pc := 16) (tgt := 23) d_Mo_smaller_16 (by decide) (fun h16 => ?_) (fun h16 => False.elim (by first | exact absurd h16 ((Int32.not_lt.mp (zw_iff.mp hg.2).2)) | exact absurd ((Int32.not_lt.mp (zw_iff.mp hg.2).2)) h16))
      refine zo_aload_n (i := i_Mo_smaller) (pc := 23) d_Mo_smaller_23 rfl rfl ?_
      refine zo_get (i := i_Mo_smaller) (pc := 24) 10 3 rfl zok_Mo (Nat.le_of_ble_eq_true rfl) (ztb_of k_861 rfl) d_Mo_smaller_24 (fun _ _ _ h => h) (hs.get (t := 0) rfl) rfl ?_
      refine zo_if_eq (i := i_Mo_smaller) (pc := 27) (tgt := 34) d_Mo_smaller_27 (by decide) (fun h27 => ?_) (fun h27 => False.elim (by first | exact absurd h27 ((by rw [hr.1.2.2.2.1, hdn]; rfl)) | exact absurd ((by rw [hr.1.2.2.2.1, hdn]; rfl)) h27))
      refine zo_iconst (i := i_Mo_smaller) (pc := 34) (v := 0) d_Mo_smaller_34 (by decide) ?_
      refine zh_put (i := i_Mo_smaller) (pc := 35) 10 0 rfl zok_Mo (Nat.le_of_ble_eq_true rfl) (ztb_of k_858 rfl) rfl d_Mo_smaller_35 (fun _ _ _ h => h) (t_Mo_ok 0 (Nat.le_of_ble_eq_true rfl)) rfl rfl hs 0 rfl (Nat.le_of_ble_eq_true rfl) fun ws hs => ?_
      refine zo_aload_n (i := i_Mo_smaller) (pc := 38) d_Mo_smaller_38 rfl rfl ?_
      refine zo_get (i := i_Mo_smaller) (pc := 39) 10 0 rfl zok_Mo (Nat.le_of_ble_eq_true rfl) (ztb_of k_858 rfl) d_Mo_smaller_39 (fun _ _ _ h => h) (hs.get (t := 0) rfl) rfl ?_
      refine zo_if_ne (i := i_Mo_smaller) (pc := 42) (tgt := 74) d_Mo_smaller_42 (by decide) (fun h42 => False.elim (by first | exact absurd h42 (rfl) | exact absurd (rfl) h42)) (fun h42 => ?_)
      obtain ⟨m, F, hr, hs⟩ : mS g B q 0 R ws := ⟨_, _, hr.thrown, hs⟩
      obtain ⟨cc, a1, a2, a3, ar⟩ := id hi
      have h30 : m 2 + 30 = cv (q.1.2.1 + 30) := by
        rw [hr.1.2.2.1, a1]
        unfold cv
        rw [if_neg (end_ne (v := 30) (by omega) (by decide))]
      refine zo_iload_n (i := i_Mo_smaller) (pc := 45) d_Mo_smaller_45 rfl ?_
      refine zo_bipush (i := i_Mo_smaller) (pc := 46) (v := 8) d_Mo_smaller_46 (by decide) ?_
      refine zo_icmp_lt (i := i_Mo_smaller) (pc := 48) (tgt := 74) d_Mo_smaller_48 (by decide) (fun h48 => ?_) (fun h48 => ?_)
      · refine zo_return (i := i_Mo_smaller) (pc := 74) hq d_Mo_smaller_74 rfl (Nat.le_of_ble_eq_true rfl) (Nat.le_of_ble_eq_true rfl) ?_
        have kk := k0 hg hdn ws
        unfold smallT at kk
        rw [if_pos (.inl h48)] at kk
        exact kk ⟨_, _, hr, hs⟩
      · refine zo_aload_n (i := i_Mo_smaller) (pc := 51) d_Mo_smaller_51 rfl rfl ?_
        refine zo_iload_n (i := i_Mo_smaller) (pc := 52) d_Mo_smaller_52 rfl ?_
        refine zc_V1 (i := i_Mo_smaller) (pc := 53) 10 rfl m_Mo_sizeFor (ztb_of k_1085 rfl) (ztb_of k_1087 rfl) s_Mo_sizeFor d_Mo_smaller_53 (Nat.le_of_ble_eq_true rfl) (Nat.le_of_ble_eq_true rfl) (Nat.le_of_ble_eq_true rfl) (Nat.le_of_ble_eq_true rfl) (hs.get (t := 0) rfl) (l_sizeFor ⟨_, _, hr, hs⟩ ?_)
        refine zo_iload_n (i := i_Mo_smaller) (pc := 56) d_Mo_smaller_56 rfl ?_
        refine zo_icmp_le (i := i_Mo_smaller) (pc := 57) (tgt := 74) d_Mo_smaller_57 (by decide) (fun h57 => ?_) (fun h57 => ?_)
        · refine zo_return (i := i_Mo_smaller) (pc := 74) hq d_Mo_smaller_74 rfl (Nat.le_of_ble_eq_true rfl) (Nat.le_of_ble_eq_true rfl) ?_
          have kk := k0 hg hdn ws
          unfold smallT at kk
          rw [if_pos (.inr h57)] at kk
          exact kk ⟨_, _, hr, hs⟩
        · refine zo_aload_n (i := i_Mo_smaller) (pc := 60) d_Mo_smaller_60 rfl rfl ?_
          refine zo_iconst (i := i_Mo_smaller) (pc := 61) (v := 2) d_Mo_smaller_61 (by decide) ?_
          refine zo_iload_n (i := i_Mo_smaller) (pc := 62) d_Mo_smaller_62 rfl ?_
          refine zo_aload_n (i := i_Mo_smaller) (pc := 63) d_Mo_smaller_63 rfl rfl ?_
          refine zo_get (i := i_Mo_smaller) (pc := 64) 10 2 rfl zok_Mo (Nat.le_of_ble_eq_true rfl) (ztb_of k_860 rfl) d_Mo_smaller_64 (fun _ _ _ h => h) (hs.get (t := 0) rfl) rfl ?_
          refine zo_bipush (i := i_Mo_smaller) (pc := 67) (v := 30) d_Mo_smaller_67 (by decide) ?_
          refine zo_iadd (i := i_Mo_smaller) (pc := 69) d_Mo_smaller_69 ?_
          refine zo_iload_n (i := i_Mo_smaller) (pc := 70) d_Mo_smaller_70 rfl ?_
          refine zc_V4 (i := i_Mo_smaller) (pc := 71) 10 rfl m_Mo_enter (ztb_of k_1036 rfl) (ztb_of k_1038 rfl) s_Mo_enter d_Mo_smaller_71 (Nat.le_of_ble_eq_true rfl) (Nat.le_of_ble_eq_true rfl) (Nat.le_of_ble_eq_true rfl) (Nat.le_of_ble_eq_true rfl) (hs.get (t := 0) rfl) (l_enter (c := 2) (e := q.1.2.1 + 30) ⟨_, _, hr, hs⟩ (by omega) h30 fun ws hS => ?_)
          refine zo_return (i := i_Mo_smaller) (pc := 74) hq d_Mo_smaller_74 rfl (Nat.le_of_ble_eq_true rfl) (Nat.le_of_ble_eq_true rfl) ?_
          have kk := k0 hg hdn ws
          unfold smallT at kk
          rw [if_neg (fun hh => hh.elim h48 h57)] at kk
          exact kk hS
    · refine zo_aload_n (i := i_Mo_smaller) (pc := 0) d_Mo_smaller_0 rfl rfl ?_
      refine zo_aload_n (i := i_Mo_smaller) (pc := 1) d_Mo_smaller_1 rfl rfl ?_
      refine zo_iload_n (i := i_Mo_smaller) (pc := 2) d_Mo_smaller_2 rfl ?_
      refine zc_V1 (i := i_Mo_smaller) (pc := 3) 10 rfl m_Mo_isAddress (ztb_of k_1056 rfl) (ztb_of k_1058 rfl) s_Mo_isAddress d_Mo_smaller_3 (Nat.le_of_ble_eq_true rfl) (Nat.le_of_ble_eq_true rfl) (Nat.le_of_ble_eq_true rfl) (Nat.le_of_ble_eq_true rfl) (hs.get (t := 0) rfl) (c_Mo_isAddress ?_)
      refine zo_if_eq (i := i_Mo_smaller) (pc := 6) (tgt := 19) d_Mo_smaller_6 (by decide) (fun h6 => False.elim (by first | exact absurd h6 ((by rw [hg.1]; decide)) | exact absurd ((by rw [hg.1]; decide)) h6)) (fun h6 => ?_)
      refine zo_iload_n (i := i_Mo_smaller) (pc := 9) d_Mo_smaller_9 rfl ?_
      refine zo_if_lt (i := i_Mo_smaller) (pc := 10) (tgt := 19) d_Mo_smaller_10 (by decide) (fun h10 => False.elim (by first | exact absurd h10 ((zw_iff.mp hg.2).1) | exact absurd ((zw_iff.mp hg.2).1) h10)) (fun h10 => ?_)
      refine zo_iload_n (i := i_Mo_smaller) (pc := 13) d_Mo_smaller_13 rfl ?_
      refine zo_bipush (i := i_Mo_smaller) (pc := 14) (v := 40) d_Mo_smaller_14 (by decide) ?_
      refine zo_icmp_le (i := i_Mo_smaller) (pc := 16) (tgt := 23) d_Mo_smaller_16 (by decide) (fun h16 => ?_) (fun h16 => False.elim (by first | exact absurd h16 ((Int32.not_lt.mp (zw_iff.mp hg.2).2)) | exact absurd ((Int32.not_lt.mp (zw_iff.mp hg.2).2)) h16))
      refine zo_aload_n (i := i_Mo_smaller) (pc := 23) d_Mo_smaller_23 rfl rfl ?_
      refine zo_get (i := i_Mo_smaller) (pc := 24) 10 3 rfl zok_Mo (Nat.le_of_ble_eq_true rfl) (ztb_of k_861 rfl) d_Mo_smaller_24 (fun _ _ _ h => h) (hs.get (t := 0) rfl) rfl ?_
      refine zo_if_eq (i := i_Mo_smaller) (pc := 27) (tgt := 34) d_Mo_smaller_27 (by decide) (fun h27 => False.elim (by first | exact absurd h27 ((by rw [hr.1.2.2.2.1, hdn]; decide)) | exact absurd ((by rw [hr.1.2.2.2.1, hdn]; decide)) h27)) (fun h27 => ?_)
      refine zo_iconst (i := i_Mo_smaller) (pc := 30) (v := 2) d_Mo_smaller_30 (by decide) ?_
      refine zo_goto (i := i_Mo_smaller) (pc := 31) (tgt := 35) d_Mo_smaller_31 (by decide) ?_
      refine zh_put (i := i_Mo_smaller) (pc := 35) 10 0 rfl zok_Mo (Nat.le_of_ble_eq_true rfl) (ztb_of k_858 rfl) rfl d_Mo_smaller_35 (fun _ _ _ h => h) (t_Mo_ok 0 (Nat.le_of_ble_eq_true rfl)) rfl rfl hs 0 rfl (Nat.le_of_ble_eq_true rfl) fun ws hs => ?_
      refine zo_aload_n (i := i_Mo_smaller) (pc := 38) d_Mo_smaller_38 rfl rfl ?_
      refine zo_get (i := i_Mo_smaller) (pc := 39) 10 0 rfl zok_Mo (Nat.le_of_ble_eq_true rfl) (ztb_of k_858 rfl) d_Mo_smaller_39 (fun _ _ _ h => h) (hs.get (t := 0) rfl) rfl ?_
      refine zo_if_ne (i := i_Mo_smaller) (pc := 42) (tgt := 74) d_Mo_smaller_42 (by decide) (fun h42 => ?_) (fun h42 => False.elim (by first | exact absurd h42 ((by decide)) | exact absurd ((by decide)) h42))
      refine zo_return (i := i_Mo_smaller) (pc := 74) hq d_Mo_smaller_74 rfl (Nat.le_of_ble_eq_true rfl) (Nat.le_of_ble_eq_true rfl) ?_
      exact k2 hg hdn ws ⟨_, _, hr.thrown, hs⟩
  · refine zo_aload_n (i := i_Mo_smaller) (pc := 0) d_Mo_smaller_0 rfl rfl ?_
    refine zo_aload_n (i := i_Mo_smaller) (pc := 1) d_Mo_smaller_1 rfl rfl ?_
    refine zo_iload_n (i := i_Mo_smaller) (pc := 2) d_Mo_smaller_2 rfl ?_
    refine zc_V1 (i := i_Mo_smaller) (pc := 3) 10 rfl m_Mo_isAddress (ztb_of k_1056 rfl) (ztb_of k_1058 rfl) s_Mo_isAddress d_Mo_smaller_3 (Nat.le_of_ble_eq_true rfl) (Nat.le_of_ble_eq_true rfl) (Nat.le_of_ble_eq_true rfl) (Nat.le_of_ble_eq_true rfl) (hs.get (t := 0) rfl) (c_Mo_isAddress ?_)
    refine zo_if_eq (i := i_Mo_smaller) (pc := 6) (tgt := 19) d_Mo_smaller_6 (by decide) (fun h6 => ?_) (fun h6 => ?_)
    · refine zo_iconst (i := i_Mo_smaller) (pc := 19) (v := 1) d_Mo_smaller_19 (by decide) ?_
      refine zo_goto (i := i_Mo_smaller) (pc := 20) (tgt := 35) d_Mo_smaller_20 (by decide) ?_
      refine zh_put (i := i_Mo_smaller) (pc := 35) 10 0 rfl zok_Mo (Nat.le_of_ble_eq_true rfl) (ztb_of k_858 rfl) rfl d_Mo_smaller_35 (fun _ _ _ h => h) (t_Mo_ok 0 (Nat.le_of_ble_eq_true rfl)) rfl rfl hs 0 rfl (Nat.le_of_ble_eq_true rfl) fun ws hs => ?_
      refine zo_aload_n (i := i_Mo_smaller) (pc := 38) d_Mo_smaller_38 rfl rfl ?_
      refine zo_get (i := i_Mo_smaller) (pc := 39) 10 0 rfl zok_Mo (Nat.le_of_ble_eq_true rfl) (ztb_of k_858 rfl) d_Mo_smaller_39 (fun _ _ _ h => h) (hs.get (t := 0) rfl) rfl ?_
      refine zo_if_ne (i := i_Mo_smaller) (pc := 42) (tgt := 74) d_Mo_smaller_42 (by decide) (fun h42 => ?_) (fun h42 => False.elim (by first | exact absurd h42 ((by decide)) | exact absurd ((by decide)) h42))
      refine zo_return (i := i_Mo_smaller) (pc := 74) hq d_Mo_smaller_74 rfl (Nat.le_of_ble_eq_true rfl) (Nat.le_of_ble_eq_true rfl) ?_
      exact k1 hg ws ⟨_, _, hr.thrown, hs⟩
    · refine zo_iload_n (i := i_Mo_smaller) (pc := 9) d_Mo_smaller_9 rfl ?_
      refine zo_if_lt (i := i_Mo_smaller) (pc := 10) (tgt := 19) d_Mo_smaller_10 (by decide) (fun h10 => ?_) (fun h10 => ?_)
      · refine zo_iconst (i := i_Mo_smaller) (pc := 19) (v := 1) d_Mo_smaller_19 (by decide) ?_
        refine zo_goto (i := i_Mo_smaller) (pc := 20) (tgt := 35) d_Mo_smaller_20 (by decide) ?_
        refine zh_put (i := i_Mo_smaller) (pc := 35) 10 0 rfl zok_Mo (Nat.le_of_ble_eq_true rfl) (ztb_of k_858 rfl) rfl d_Mo_smaller_35 (fun _ _ _ h => h) (t_Mo_ok 0 (Nat.le_of_ble_eq_true rfl)) rfl rfl hs 0 rfl (Nat.le_of_ble_eq_true rfl) fun ws hs => ?_
        refine zo_aload_n (i := i_Mo_smaller) (pc := 38) d_Mo_smaller_38 rfl rfl ?_
        refine zo_get (i := i_Mo_smaller) (pc := 39) 10 0 rfl zok_Mo (Nat.le_of_ble_eq_true rfl) (ztb_of k_858 rfl) d_Mo_smaller_39 (fun _ _ _ h => h) (hs.get (t := 0) rfl) rfl ?_
        refine zo_if_ne (i := i_Mo_smaller) (pc := 42) (tgt := 74) d_Mo_smaller_42 (by decide) (fun h42 => ?_) (fun h42 => False.elim (by first | exact absurd h42 ((by decide)) | exact absurd ((by decide)) h42))
        refine zo_return (i := i_Mo_smaller) (pc := 74) hq d_Mo_smaller_74 rfl (Nat.le_of_ble_eq_true rfl) (Nat.le_of_ble_eq_true rfl) ?_
        exact k1 hg ws ⟨_, _, hr.thrown, hs⟩
      · refine zo_iload_n (i := i_Mo_smaller) (pc := 13) d_Mo_smaller_13 rfl ?_
        refine zo_bipush (i := i_Mo_smaller) (pc := 14) (v := 40) d_Mo_smaller_14 (by decide) ?_
        refine zo_icmp_le (i := i_Mo_smaller) (pc := 16) (tgt := 23) d_Mo_smaller_16 (by decide) (fun h16 => False.elim (by first | exact absurd h16 ((fun hh => hg ⟨zb_ne h6, zw_iff.mpr ⟨h10, Int32.not_lt.mpr hh⟩⟩)) | exact absurd ((fun hh => hg ⟨zb_ne h6, zw_iff.mpr ⟨h10, Int32.not_lt.mpr hh⟩⟩)) h16)) (fun h16 => ?_)
        refine zo_iconst (i := i_Mo_smaller) (pc := 19) (v := 1) d_Mo_smaller_19 (by decide) ?_
        refine zo_goto (i := i_Mo_smaller) (pc := 20) (tgt := 35) d_Mo_smaller_20 (by decide) ?_
        refine zh_put (i := i_Mo_smaller) (pc := 35) 10 0 rfl zok_Mo (Nat.le_of_ble_eq_true rfl) (ztb_of k_858 rfl) rfl d_Mo_smaller_35 (fun _ _ _ h => h) (t_Mo_ok 0 (Nat.le_of_ble_eq_true rfl)) rfl rfl hs 0 rfl (Nat.le_of_ble_eq_true rfl) fun ws hs => ?_
        refine zo_aload_n (i := i_Mo_smaller) (pc := 38) d_Mo_smaller_38 rfl rfl ?_
        refine zo_get (i := i_Mo_smaller) (pc := 39) 10 0 rfl zok_Mo (Nat.le_of_ble_eq_true rfl) (ztb_of k_858 rfl) d_Mo_smaller_39 (fun _ _ _ h => h) (hs.get (t := 0) rfl) rfl ?_
        refine zo_if_ne (i := i_Mo_smaller) (pc := 42) (tgt := 74) d_Mo_smaller_42 (by decide) (fun h42 => ?_) (fun h42 => False.elim (by first | exact absurd h42 ((by decide)) | exact absurd ((by decide)) h42))
        refine zo_return (i := i_Mo_smaller) (pc := 74) hq d_Mo_smaller_74 rfl (Nat.le_of_ble_eq_true rfl) (Nat.le_of_ble_eq_true rfl) ?_
        exact k1 hg ws ⟨_, _, hr.thrown, hs⟩
