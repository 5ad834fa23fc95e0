/-! More of the rows: giving up, adding, keeping, whether one is usable (walks by a program, gen15.py). -/
theorem c_Nr_giveUp {g : zG} {ws : va_W} {post : Option Value → va_W → Prop} {r l : Nat} {d : Option Nat} {m : Int32} {els : List (Nat × zND)} {R : va_W} (hs : zHas ws (rwW g 3 2 ndV r l d m [] els ++ R)) (hx : d = none → els = []) (hl : els.length ≤ 10) {a : Int32} (k : ∀ m' w, zHas w (rwW g 3 2 ndV r l d m' [] (els.filter (fun e => !zgone a e.2)) ++ R) → post (some (.int (zgw a els))) w) : zC g i_Nr_giveUp [.ref r, .int a] ws post := by
  refine zC.intro (by decide +kernel) rfl (Nat.le_of_ble_eq_true rfl) fun x hq => ?_
  have loop : ∀ (k : Nat) (ws : va_W) (m : Int32) (o : Option Value), k ≤ els.length → zHas ws (rwW g 3 2 ndV r l d m [] (zcur (fun e => !zgone a e.2) els k) ++ R) → zW x g i_Nr_giveUp 12 [some (.ref r), some (.int a), some (.int (zgw a (els.drop k))), some (.int (nI k - 1)), o] [] ws 0 0 := by
    intro k
    induction k with
    | zero =>
      intro ws m o hk hs
      refine zo_iload_n (i := i_Nr_giveUp) (pc := 12) d_Nr_giveUp_12 rfl ?_
      refine zo_if_lt (i := i_Nr_giveUp) (pc := 13) (tgt := 79) d_Nr_giveUp_13 (by decide) (fun h13 => ?_) (fun h13 => False.elim (by first | exact absurd h13 (by decide) | exact absurd (by decide) h13))
      refine zo_iload_n (i := i_Nr_giveUp) (pc := 79) d_Nr_giveUp_79 rfl ?_
      refine zo_ireturn (i := i_Nr_giveUp) (pc := 80) hq d_Nr_giveUp_80 rfl (Nat.le_of_ble_eq_true rfl) (Nat.le_of_ble_eq_true rfl) ?_
      exact k m ws hs
    | succ j ih =>
      intro ws m o hk hs
      obtain ⟨e, he⟩ := zidx (els := els) (i := j) (by omega)
      have hcj := zcur_at (p := (fun e => !zgone a e.2)) he
      have hse := rw_el hs hcj
      have hsl := rw_open hs
      have hlc := zcur_len (fun e => !zgone a e.2) els (j + 1)
      have hxx : d = none → (zcur (fun e => !zgone a e.2) els (j + 1)).map Prod.fst = [] := fun h => by rw [zcur_nil (hx h)]; rfl
      have hll : ((zcur (fun e => !zgone a e.2) els (j + 1)).map Prod.fst).length ≤ 10 := by rw [List.length_map]; omega
      obtain ⟨-, hdr, -⟩ := zcut he
      rw [nI_pred]
      refine zo_iload_n (i := i_Nr_giveUp) (pc := 12) d_Nr_giveUp_12 rfl ?_
      refine zo_if_lt (i := i_Nr_giveUp) (pc := 13) (tgt := 79) d_Nr_giveUp_13 (by decide) (fun h13 => False.elim (by first | exact absurd h13 (nI_pos (by omega)) | exact absurd (nI_pos (by omega)) h13)) (fun h13 => ?_)
      refine zo_aload_n (i := i_Nr_giveUp) (pc := 16) d_Nr_giveUp_16 rfl rfl ?_
      refine zo_get (i := i_Nr_giveUp) (pc := 17) 3 0 rfl zok_Nr (Nat.le_of_ble_eq_true rfl) (ztb_of k_109 rfl) d_Nr_giveUp_17 (fun _ _ _ h => h) (rw_head hs) rfl ?_
      refine zo_iload_n (i := i_Nr_giveUp) (pc := 20) d_Nr_giveUp_20 rfl ?_
      refine zc_V1 (i := i_Nr_giveUp) (pc := 21) 0 rfl m_Al_get (ztb_of k_317 rfl) (ztb_of k_318 rfl) (ztb_of k_319 rfl) d_Nr_giveUp_21 (Nat.le_of_ble_eq_true rfl) (Nat.le_of_ble_eq_true rfl) (Nat.le_of_ble_eq_true rfl) (Nat.le_of_ble_eq_true rfl) (alW_head hsl) (c_al_get hsl hxx hll (rw_idx hcj) ?_)
      refine zo_cast (i := i_Nr_giveUp) (pc := 24) 2 rfl d_Nr_giveUp_24 (ztb_of k_331 rfl) (ztb_of k_1159 rfl) hse ?_
      refine zo_astore (i := i_Nr_giveUp) (pc := 27) d_Nr_giveUp_27 rfl (Nat.le_of_ble_eq_true rfl) ?_
      refine zo_aload (i := i_Nr_giveUp) (pc := 29) d_Nr_giveUp_29 rfl rfl ?_
      refine zc_VN0 (i := i_Nr_giveUp) (pc := 31) 2 rfl m_Ne_isAskedFor (ztb_of k_493 rfl) (ztb_of k_479 rfl) s_Ne_isAskedFor d_Nr_giveUp_31 (Nat.le_of_ble_eq_true rfl) (Nat.le_of_ble_eq_true rfl) (Nat.le_of_ble_eq_true rfl) (Nat.le_of_ble_eq_true rfl) hse (c_Ne_isAskedFor hse ?_)
      refine zo_if_eq (i := i_Nr_giveUp) (pc := 34) (tgt := 73) d_Nr_giveUp_34 (by decide) (fun h34 => ?_) (fun h34 => ?_)
      · refine zo_iinc (i := i_Nr_giveUp) (pc := 73) (v := nI j - 1) d_Nr_giveUp_73 rfl (nI_dec j) (Nat.le_of_ble_eq_true rfl) ?_
        refine zo_goto (i := i_Nr_giveUp) (pc := 76) (tgt := 12) d_Nr_giveUp_76 (by decide) ?_
        first
        | (have hp : zgone a e.2 = false := by
             first
               | (rw [zgone, zb_0.mp h34]; rfl)
               | (rw [zb_0, Bool.not_eq_false] at h34; rw [zgone, h34, decide_eq_true h45]; rfl)
           have e1 : zgw a (els.drop j) = zgw a (els.drop (j + 1)) := by rw [hdr, zgw, if_neg (by rw [hp]; decide)]
           rw [← e1]
           exact ih ws m _ (by omega) (hs.eq (by rw [zcur_keep he (by rw [hp]; rfl)])))
        | (have hp : zgone a e.2 = true := by
             rw [zb_0, Bool.not_eq_false] at h34
             rw [zgone, h34, decide_eq_false h45]
             rfl
           have e1 : zgw a (els.drop j) = zgw a (els.drop (j + 1)) + zb (!decide (e.2.2.2.2.2.2 = 0)) := by rw [hdr, zgw, if_pos hp]
           first
             | (have e2 : zb (!decide (e.2.2.2.2.2.2 = 0)) = 0 := h54
                rw [e2] at e1
                rw [← e1]
                exact ih ws m _ (by omega) ((rw_less j hs).eq (by rw [zcur_drop he (by rw [hp]; rfl)])))
             | (have e2 : zb (!decide (e.2.2.2.2.2.2 = 0)) = 1 := by
                  rw [zb_0, Bool.not_eq_false] at h54
                  rw [h54]
                  rfl
                rw [e2] at e1
                rw [← e1]
                exact ih ws m _ (by omega) ((rw_less j hs).eq (by rw [zcur_drop he (by rw [hp]; rfl)]))))
      · refine zo_iload_n (i := i_Nr_giveUp) (pc := 37) d_Nr_giveUp_37 rfl ?_
        refine zo_aload (i := i_Nr_giveUp) (pc := 38) d_Nr_giveUp_38 rfl rfl ?_
        refine zo_getN (i := i_Nr_giveUp) (pc := 40) 2 3 rfl zok_Ne (Nat.le_of_ble_eq_true rfl) (ztb_of k_552 rfl) d_Nr_giveUp_40 (fun _ _ _ h => h) hse rfl ?_
        refine zo_isub (i := i_Nr_giveUp) (pc := 43) d_Nr_giveUp_43 ?_
        refine zo_iconst (i := i_Nr_giveUp) (pc := 44) (v := 3) d_Nr_giveUp_44 (by decide) ?_
        refine zo_icmp_lt (i := i_Nr_giveUp) (pc := 45) (tgt := 73) d_Nr_giveUp_45 (by decide) (fun h45 => ?_) (fun h45 => ?_)
        · refine zo_iinc (i := i_Nr_giveUp) (pc := 73) (v := nI j - 1) d_Nr_giveUp_73 rfl (nI_dec j) (Nat.le_of_ble_eq_true rfl) ?_
          refine zo_goto (i := i_Nr_giveUp) (pc := 76) (tgt := 12) d_Nr_giveUp_76 (by decide) ?_
          first
          | (have hp : zgone a e.2 = false := by
               first
                 | (rw [zgone, zb_0.mp h34]; rfl)
                 | (rw [zb_0, Bool.not_eq_false] at h34; rw [zgone, h34, decide_eq_true h45]; rfl)
             have e1 : zgw a (els.drop j) = zgw a (els.drop (j + 1)) := by rw [hdr, zgw, if_neg (by rw [hp]; decide)]
             rw [← e1]
             exact ih ws m _ (by omega) (hs.eq (by rw [zcur_keep he (by rw [hp]; rfl)])))
          | (have hp : zgone a e.2 = true := by
               rw [zb_0, Bool.not_eq_false] at h34
               rw [zgone, h34, decide_eq_false h45]
               rfl
             have e1 : zgw a (els.drop j) = zgw a (els.drop (j + 1)) + zb (!decide (e.2.2.2.2.2.2 = 0)) := by rw [hdr, zgw, if_pos hp]
             first
               | (have e2 : zb (!decide (e.2.2.2.2.2.2 = 0)) = 0 := h54
                  rw [e2] at e1
                  rw [← e1]
                  exact ih ws m _ (by omega) ((rw_less j hs).eq (by rw [zcur_drop he (by rw [hp]; rfl)])))
               | (have e2 : zb (!decide (e.2.2.2.2.2.2 = 0)) = 1 := by
                    rw [zb_0, Bool.not_eq_false] at h54
                    rw [h54]
                    rfl
                  rw [e2] at e1
                  rw [← e1]
                  exact ih ws m _ (by omega) ((rw_less j hs).eq (by rw [zcur_drop he (by rw [hp]; rfl)]))))
        · refine zo_iload_n (i := i_Nr_giveUp) (pc := 48) d_Nr_giveUp_48 rfl ?_
          refine zo_aload (i := i_Nr_giveUp) (pc := 49) d_Nr_giveUp_49 rfl rfl ?_
          refine zc_VN0 (i := i_Nr_giveUp) (pc := 51) 2 rfl m_Ne_hasWaiting (ztb_of k_494 rfl) (ztb_of k_334 rfl) s_Ne_hasWaiting d_Nr_giveUp_51 (Nat.le_of_ble_eq_true rfl) (Nat.le_of_ble_eq_true rfl) (Nat.le_of_ble_eq_true rfl) (Nat.le_of_ble_eq_true rfl) hse (c_Ne_hasWaiting hse ?_)
          refine zo_if_eq (i := i_Nr_giveUp) (pc := 54) (tgt := 61) d_Nr_giveUp_54 (by decide) (fun h54 => ?_) (fun h54 => ?_)
          · refine zo_iconst (i := i_Nr_giveUp) (pc := 61) (v := 0) d_Nr_giveUp_61 (by decide) ?_
            refine zo_iadd (i := i_Nr_giveUp) (pc := 62) d_Nr_giveUp_62 ?_
            refine zo_istore_n (i := i_Nr_giveUp) (pc := 63) d_Nr_giveUp_63 (Nat.le_of_ble_eq_true rfl) ?_
            refine zo_aload_n (i := i_Nr_giveUp) (pc := 64) d_Nr_giveUp_64 rfl rfl ?_
            refine zo_get (i := i_Nr_giveUp) (pc := 65) 3 0 rfl zok_Nr (Nat.le_of_ble_eq_true rfl) (ztb_of k_109 rfl) d_Nr_giveUp_65 (fun _ _ _ h => h) (rw_head hs) rfl ?_
            refine zo_iload_n (i := i_Nr_giveUp) (pc := 68) d_Nr_giveUp_68 rfl ?_
            refine zc_V1 (i := i_Nr_giveUp) (pc := 69) 0 rfl m_Al_remove (ztb_of k_495 rfl) (ztb_of k_445 rfl) (ztb_of k_446 rfl) d_Nr_giveUp_69 (Nat.le_of_ble_eq_true rfl) (Nat.le_of_ble_eq_true rfl) (Nat.le_of_ble_eq_true rfl) (Nat.le_of_ble_eq_true rfl) (alW_head hsl) (c_al_remove 2 rfl (ztb_of k_1173 rfl) hxx hll (rw_idx hcj) rw_all hsl fun m ws hs => ?_)
            refine zo_pop (i := i_Nr_giveUp) (pc := 72) d_Nr_giveUp_72 rfl ?_
            refine zo_iinc (i := i_Nr_giveUp) (pc := 73) (v := nI j - 1) d_Nr_giveUp_73 rfl (nI_dec j) (Nat.le_of_ble_eq_true rfl) ?_
            refine zo_goto (i := i_Nr_giveUp) (pc := 76) (tgt := 12) d_Nr_giveUp_76 (by decide) ?_
            first
            | (have hp : zgone a e.2 = false := by
                 first
                   | (rw [zgone, zb_0.mp h34]; rfl)
                   | (rw [zb_0, Bool.not_eq_false] at h34; rw [zgone, h34, decide_eq_true h45]; rfl)
               have e1 : zgw a (els.drop j) = zgw a (els.drop (j + 1)) := by rw [hdr, zgw, if_neg (by rw [hp]; decide)]
               rw [← e1]
               exact ih ws m _ (by omega) (hs.eq (by rw [zcur_keep he (by rw [hp]; rfl)])))
            | (have hp : zgone a e.2 = true := by
                 rw [zb_0, Bool.not_eq_false] at h34
                 rw [zgone, h34, decide_eq_false h45]
                 rfl
               have e1 : zgw a (els.drop j) = zgw a (els.drop (j + 1)) + zb (!decide (e.2.2.2.2.2.2 = 0)) := by rw [hdr, zgw, if_pos hp]
               first
                 | (have e2 : zb (!decide (e.2.2.2.2.2.2 = 0)) = 0 := h54
                    rw [e2] at e1
                    rw [← e1]
                    exact ih ws m _ (by omega) ((rw_less j hs).eq (by rw [zcur_drop he (by rw [hp]; rfl)])))
                 | (have e2 : zb (!decide (e.2.2.2.2.2.2 = 0)) = 1 := by
                      rw [zb_0, Bool.not_eq_false] at h54
                      rw [h54]
                      rfl
                    rw [e2] at e1
                    rw [← e1]
                    exact ih ws m _ (by omega) ((rw_less j hs).eq (by rw [zcur_drop he (by rw [hp]; rfl)]))))
          · refine zo_iconst (i := i_Nr_giveUp) (pc := 57) (v := 1) d_Nr_giveUp_57 (by decide) ?_
            refine zo_goto (i := i_Nr_giveUp) (pc := 58) (tgt := 62) d_Nr_giveUp_58 (by decide) ?_
            refine zo_iadd (i := i_Nr_giveUp) (pc := 62) d_Nr_giveUp_62 ?_
            refine zo_istore_n (i := i_Nr_giveUp) (pc := 63) d_Nr_giveUp_63 (Nat.le_of_ble_eq_true rfl) ?_
            refine zo_aload_n (i := i_Nr_giveUp) (pc := 64) d_Nr_giveUp_64 rfl rfl ?_
            refine zo_get (i := i_Nr_giveUp) (pc := 65) 3 0 rfl zok_Nr (Nat.le_of_ble_eq_true rfl) (ztb_of k_109 rfl) d_Nr_giveUp_65 (fun _ _ _ h => h) (rw_head hs) rfl ?_
            refine zo_iload_n (i := i_Nr_giveUp) (pc := 68) d_Nr_giveUp_68 rfl ?_
            refine zc_V1 (i := i_Nr_giveUp) (pc := 69) 0 rfl m_Al_remove (ztb_of k_495 rfl) (ztb_of k_445 rfl) (ztb_of k_446 rfl) d_Nr_giveUp_69 (Nat.le_of_ble_eq_true rfl) (Nat.le_of_ble_eq_true rfl) (Nat.le_of_ble_eq_true rfl) (Nat.le_of_ble_eq_true rfl) (alW_head hsl) (c_al_remove 2 rfl (ztb_of k_1173 rfl) hxx hll (rw_idx hcj) rw_all hsl fun m ws hs => ?_)
            refine zo_pop (i := i_Nr_giveUp) (pc := 72) d_Nr_giveUp_72 rfl ?_
            refine zo_iinc (i := i_Nr_giveUp) (pc := 73) (v := nI j - 1) d_Nr_giveUp_73 rfl (nI_dec j) (Nat.le_of_ble_eq_true rfl) ?_
            refine zo_goto (i := i_Nr_giveUp) (pc := 76) (tgt := 12) d_Nr_giveUp_76 (by decide) ?_
            first
            | (have hp : zgone a e.2 = false := by
                 first
                   | (rw [zgone, zb_0.mp h34]; rfl)
                   | (rw [zb_0, Bool.not_eq_false] at h34; rw [zgone, h34, decide_eq_true h45]; rfl)
               have e1 : zgw a (els.drop j) = zgw a (els.drop (j + 1)) := by rw [hdr, zgw, if_neg (by rw [hp]; decide)]
               rw [← e1]
               exact ih ws m _ (by omega) (hs.eq (by rw [zcur_keep he (by rw [hp]; rfl)])))
            | (have hp : zgone a e.2 = true := by
                 rw [zb_0, Bool.not_eq_false] at h34
                 rw [zgone, h34, decide_eq_false h45]
                 rfl
               have e1 : zgw a (els.drop j) = zgw a (els.drop (j + 1)) + zb (!decide (e.2.2.2.2.2.2 = 0)) := by rw [hdr, zgw, if_pos hp]
               first
                 | (have e2 : zb (!decide (e.2.2.2.2.2.2 = 0)) = 0 := h54
                    rw [e2] at e1
                    rw [← e1]
                    exact ih ws m _ (by omega) ((rw_less j hs).eq (by rw [zcur_drop he (by rw [hp]; rfl)])))
                 | (have e2 : zb (!decide (e.2.2.2.2.2.2 = 0)) = 1 := by
                      rw [zb_0, Bool.not_eq_false] at h54
                      rw [h54]
                      rfl
                    rw [e2] at e1
                    rw [← e1]
                    exact ih ws m _ (by omega) ((rw_less j hs).eq (by rw [zcur_drop he (by rw [hp]; rfl)]))))
  have hsl := rw_open hs
  have hxx : d = none → els.map Prod.fst = [] := fun h => by rw [hx h]; rfl
  have hll : (els.map Prod.fst).length ≤ 10 := by rw [List.length_map]; exact hl
  refine zo_iconst (i := i_Nr_giveUp) (pc := 0) (v := 0) d_Nr_giveUp_0 (by decide) ?_
  refine zo_istore_n (i := i_Nr_giveUp) (pc := 1) d_Nr_giveUp_1 (Nat.le_of_ble_eq_true rfl) ?_
  refine zo_aload_n (i := i_Nr_giveUp) (pc := 2) d_Nr_giveUp_2 rfl rfl ?_
  refine zo_get (i := i_Nr_giveUp) (pc := 3) 3 0 rfl zok_Nr (Nat.le_of_ble_eq_true rfl) (ztb_of k_109 rfl) d_Nr_giveUp_3 (fun _ _ _ h => h) (rw_head hs) rfl ?_
  refine zc_V0 (i := i_Nr_giveUp) (pc := 6) 0 rfl m_Al_size (ztb_of k_313 rfl) (ztb_of k_314 rfl) (ztb_of k_315 rfl) d_Nr_giveUp_6 (Nat.le_of_ble_eq_true rfl) (Nat.le_of_ble_eq_true rfl) (Nat.le_of_ble_eq_true rfl) (Nat.le_of_ble_eq_true rfl) (alW_head hsl) (c_al_size hsl ?_)
  rw [List.length_map]
  refine zo_iconst (i := i_Nr_giveUp) (pc := 9) (v := 1) d_Nr_giveUp_9 (by decide) ?_
  refine zo_isub (i := i_Nr_giveUp) (pc := 10) d_Nr_giveUp_10 ?_
  refine zo_istore_n (i := i_Nr_giveUp) (pc := 11) d_Nr_giveUp_11 (Nat.le_of_ble_eq_true rfl) ?_
  have e0 : zgw a (els.drop els.length) = 0 := by rw [List.drop_length]; rfl
  have h0 := loop els.length ws m none (Nat.le_refl _) (hs.eq (by rw [zcur_n]))
  rw [e0] at h0
  exact h0
theorem c_Nr_add {g : zG} {ws : va_W} {post : Option Value → va_W → Prop} {r l : Nat} {d : Option Nat} {m : Int32} {els : List (Nat × zND)} {R : va_W} {b : Nat} {y : zND} (hs : zHas ws (rwW g 3 2 ndV r l d m [] els ++ ((b, .inr (2, ndV y)) :: R))) (hx : d = none → els = []) (hl : els.length ≤ 6) (k : ∀ d' m' w, zHas w (rwW g 3 2 ndV r l (some d') m' [] (zcap 6 els ++ [(b, y)]) ++ R) → post none w) : zC g i_Nr_add [.ref r, .ref b] ws post := by
  refine zC.intro (by decide +kernel) rfl (Nat.le_of_ble_eq_true rfl) fun x hq => ?_
  have hsl := rw_open hs
  have hxx : d = none → els.map Prod.fst = [] := fun h => by rw [hx h]; rfl
  refine zo_aload_n (i := i_Nr_add) (pc := 0) d_Nr_add_0 rfl rfl ?_
  refine zo_get (i := i_Nr_add) (pc := 1) 3 0 rfl zok_Nr (Nat.le_of_ble_eq_true rfl) (ztb_of k_109 rfl) d_Nr_add_1 (fun _ _ _ h => h) (rw_head hs) rfl ?_
  refine zc_V0 (i := i_Nr_add) (pc := 4) 0 rfl m_Al_size (ztb_of k_313 rfl) (ztb_of k_314 rfl) (ztb_of k_315 rfl) d_Nr_add_4 (Nat.le_of_ble_eq_true rfl) (Nat.le_of_ble_eq_true rfl) (Nat.le_of_ble_eq_true rfl) (Nat.le_of_ble_eq_true rfl) (alW_head hsl) (c_al_size hsl ?_)
  rw [List.length_map]
  refine zo_bipush (i := i_Nr_add) (pc := 7) (v := 6) d_Nr_add_7 (by decide) ?_
  refine zo_icmp_lt (i := i_Nr_add) (pc := 9) (tgt := 21) d_Nr_add_9 (by decide) (fun h9 => ?_) (fun h9 => ?_)
  · first
    | (have h6 : els.length < 6 := Nat.not_le.mp fun q => absurd h9 (nI_nlt q (by omega))
       have hz : zcap 6 els = els := if_neg (by omega)
       rw [hz] at k)
    | skip
    refine zo_aload_n (i := i_Nr_add) (pc := 21) d_Nr_add_21 rfl rfl ?_
    refine zo_get (i := i_Nr_add) (pc := 22) 3 0 rfl zok_Nr (Nat.le_of_ble_eq_true rfl) (ztb_of k_109 rfl) d_Nr_add_22 (fun _ _ _ h => h) (rw_head hs) rfl ?_
    refine zo_aload_n (i := i_Nr_add) (pc := 25) d_Nr_add_25 rfl rfl ?_
    refine zc_V1 (i := i_Nr_add) (pc := 26) 0 rfl m_Al_add (ztb_of k_575 rfl) (ztb_of k_196 rfl) (ztb_of k_197 rfl) d_Nr_add_26 (Nat.le_of_ble_eq_true rfl) (Nat.le_of_ble_eq_true rfl) (Nat.le_of_ble_eq_true rfl) (Nat.le_of_ble_eq_true rfl) (alW_head hsl) (c_al_add 2 rfl (ztb_of k_1173 rfl) (List.mem_cons_of_mem _ (List.mem_append_right _ List.mem_cons_self)) hsl hxx (by rw [List.length_map]; omega) fun d' m' ws hs => ?_)
    refine zo_pop (i := i_Nr_add) (pc := 29) d_Nr_add_29 rfl ?_
    refine zo_return (i := i_Nr_add) (pc := 30) hq d_Nr_add_30 rfl (Nat.le_of_ble_eq_true rfl) (Nat.le_of_ble_eq_true rfl) ?_
    exact k _ _ ws (rw_more hs)
  · have h6 : 6 ≤ els.length := Nat.not_lt.mp fun q => h9 (nI_lt q (by decide))
    obtain ⟨e, he⟩ := zidx (els := els) (i := 0) (by omega)
    refine zo_aload_n (i := i_Nr_add) (pc := 12) d_Nr_add_12 rfl rfl ?_
    refine zo_get (i := i_Nr_add) (pc := 13) 3 0 rfl zok_Nr (Nat.le_of_ble_eq_true rfl) (ztb_of k_109 rfl) d_Nr_add_13 (fun _ _ _ h => h) (rw_head hs) rfl ?_
    refine zo_iconst (i := i_Nr_add) (pc := 16) (v := 0) d_Nr_add_16 (by decide) ?_
    refine zc_V1 (i := i_Nr_add) (pc := 17) 0 rfl m_Al_remove (ztb_of k_495 rfl) (ztb_of k_445 rfl) (ztb_of k_446 rfl) d_Nr_add_17 (Nat.le_of_ble_eq_true rfl) (Nat.le_of_ble_eq_true rfl) (Nat.le_of_ble_eq_true rfl) (Nat.le_of_ble_eq_true rfl) (alW_head hsl) (c_al_remove (j := 0) 2 rfl (ztb_of k_1173 rfl) hxx (by rw [List.length_map]; omega) (rw_idx he) rw_all hsl fun m ws hs => ?_)
    replace hs := rw_less 0 hs
    replace hx : d = none → els.eraseIdx 0 = [] := fun h => by rw [hx h]; rfl
    have hl5 : (els.eraseIdx 0).length < 6 := by rw [List.length_eraseIdx_of_lt (by omega)]; omega
    have hz : zcap 6 els = els.eraseIdx 0 := if_pos (by omega)
    rw [hz] at k
    clear hz he hxx hsl h9
    generalize els.eraseIdx 0 = els at hs hx hl5 k
    have hsl := rw_open hs
    have hxx : d = none → els.map Prod.fst = [] := fun h => by rw [hx h]; rfl
    refine zo_pop (i := i_Nr_add) (pc := 20) d_Nr_add_20 rfl ?_
    first
    | (have h6 : els.length < 6 := Nat.not_le.mp fun q => absurd h9 (nI_nlt q (by omega))
       have hz : zcap 6 els = els := if_neg (by omega)
       rw [hz] at k)
    | skip
    refine zo_aload_n (i := i_Nr_add) (pc := 21) d_Nr_add_21 rfl rfl ?_
    refine zo_get (i := i_Nr_add) (pc := 22) 3 0 rfl zok_Nr (Nat.le_of_ble_eq_true rfl) (ztb_of k_109 rfl) d_Nr_add_22 (fun _ _ _ h => h) (rw_head hs) rfl ?_
    refine zo_aload_n (i := i_Nr_add) (pc := 25) d_Nr_add_25 rfl rfl ?_
    refine zc_V1 (i := i_Nr_add) (pc := 26) 0 rfl m_Al_add (ztb_of k_575 rfl) (ztb_of k_196 rfl) (ztb_of k_197 rfl) d_Nr_add_26 (Nat.le_of_ble_eq_true rfl) (Nat.le_of_ble_eq_true rfl) (Nat.le_of_ble_eq_true rfl) (Nat.le_of_ble_eq_true rfl) (alW_head hsl) (c_al_add 2 rfl (ztb_of k_1173 rfl) (List.mem_cons_of_mem _ (List.mem_append_right _ List.mem_cons_self)) hsl hxx (by rw [List.length_map]; omega) fun d' m' ws hs => ?_)
    refine zo_pop (i := i_Nr_add) (pc := 29) d_Nr_add_29 rfl ?_
    refine zo_return (i := i_Nr_add) (pc := 30) hq d_Nr_add_30 rfl (Nat.le_of_ble_eq_true rfl) (Nat.le_of_ble_eq_true rfl) ?_
    exact k _ _ ws (rw_more hs)
/-- an entry kept: changed where it stands, else last, the first going if there are n -/
def zkeep (n : Nat) (x : zTD) (b : Nat) (els : List (Nat × zTD)) : List (Nat × zTD) :=
  match els.find? (fun e => decide (e.2.1 = x.1)) with
  | some _ => zset1 (fun e => decide (e.2.1 = x.1)) (fun e => (e.1, x)) els
  | none => zcap n els ++ [(b, x)]
theorem c_Tr_keep {g : zG} {ws : va_W} {post : Option Value → va_W → Prop} {r l : Nat} {d : Option Nat} {m mo : Int32} {els : List (Nat × zTD)} {R : va_W} (hs : zHas ws (rwW g 8 7 tdV r l d m [.int mo] els ++ R)) (hx : d = none → els = []) (hl : els.length ≤ 10) {n : Nat} {a x2 x3 : Int32} (hm : mo = nI n) (h0 : 0 < n) (hn : n < 10) (hl6 : els.length ≤ n)
    (k : ∀ b d' m' w, (d' = none → d = none ∧ (els.find? (fun e => decide (e.2.1 = a))).isSome = true) → zHas w (rwW g 8 7 tdV r l d' m' [.int mo] (zkeep n (a, x2, x3) b els) ++ R) → post none w) : zC g i_Tr_keep [.ref r, .int a, .int x2, .int x3] ws post := by
  refine zC.intro (by decide +kernel) rfl (Nat.le_of_ble_eq_true rfl) fun x hq => ?_
  have hsl := rw_open hs
  have hxx : d = none → els.map Prod.fst = [] := fun h => by rw [hx h]; rfl
  have hll : (els.map Prod.fst).length ≤ 10 := by rw [List.length_map]; exact hl
  cases hf : els.find? (fun e => decide (e.2.1 = a)) with
  | some e =>
    refine zo_aload_n (i := i_Tr_keep) (pc := 0) d_Tr_keep_0 rfl rfl ?_
    refine zo_iload_n (i := i_Tr_keep) (pc := 1) d_Tr_keep_1 rfl ?_
    refine zc_V1 (i := i_Tr_keep) (pc := 2) 8 rfl m_Tr_find (ztb_of k_596 rfl) (ztb_of k_343 rfl) s_Tr_find d_Tr_keep_2 (Nat.le_of_ble_eq_true rfl) (Nat.le_of_ble_eq_true rfl) (Nat.le_of_ble_eq_true rfl) (Nat.le_of_ble_eq_true rfl) (rw_head hs) (c_Tr_find hs hx hl ?_)
    rw [hf]
    refine zo_astore (i := i_Tr_keep) (pc := 5) d_Tr_keep_5 rfl (Nat.le_of_ble_eq_true rfl) ?_
    refine zo_aload (i := i_Tr_keep) (pc := 7) d_Tr_keep_7 rfl rfl ?_
    refine zo_ifnull (i := i_Tr_keep) (pc := 9) (tgt := 25) d_Tr_keep_9 (by decide) rfl (fun h9 => False.elim (by first | exact absurd h9 ((by intro q; cases q)) | exact absurd ((by intro q; cases q)) h9)) (fun h9 => ?_)
    obtain ⟨j, hj, hpj, hno⟩ := zfind_idx hf
    have hkey : e.2.1 = a := of_decide_eq_true hpj
    replace hs := rw_pull hs hj
    refine zo_aload (i := i_Tr_keep) (pc := 12) d_Tr_keep_12 rfl rfl ?_
    refine zo_iload_n (i := i_Tr_keep) (pc := 14) d_Tr_keep_14 rfl ?_
    refine zh_putN (i := i_Tr_keep) (pc := 15) 7 1 rfl zok_Ti (Nat.le_of_ble_eq_true rfl) (ztb_of k_610 rfl) rfl d_Tr_keep_15 (fun _ _ _ h => h) (t_Ti_ok 1 (Nat.le_of_ble_eq_true rfl)) rfl rfl hs 0 rfl (Nat.le_of_ble_eq_true rfl) fun ws hs => ?_
    refine zo_aload (i := i_Tr_keep) (pc := 18) d_Tr_keep_18 rfl rfl ?_
    refine zo_iload_n (i := i_Tr_keep) (pc := 20) d_Tr_keep_20 rfl ?_
    refine zh_putN (i := i_Tr_keep) (pc := 21) 7 2 rfl zok_Ti (Nat.le_of_ble_eq_true rfl) (ztb_of k_612 rfl) rfl d_Tr_keep_21 (fun _ _ _ h => h) (t_Ti_ok 2 (Nat.le_of_ble_eq_true rfl)) rfl rfl hs 0 rfl (Nat.le_of_ble_eq_true rfl) fun ws hs => ?_
    refine zo_return (i := i_Tr_keep) (pc := 24) hq d_Tr_keep_24 rfl (Nat.le_of_ble_eq_true rfl) (Nat.le_of_ble_eq_true rfl) ?_
    refine k 0 d m ws (fun h => ⟨h, by rw [hf]; rfl⟩) ?_
    have e1 : zkeep n (a, x2, x3) 0 els = els.set j (e.1, (a, x2, x3)) := by
      unfold zkeep
      rw [hf]
      exact zset1_at hno hj hpj
    rw [e1]
    refine rw_push hj ?_
    rw [← hkey]
    exact hs
  | none =>
    refine zo_aload_n (i := i_Tr_keep) (pc := 0) d_Tr_keep_0 rfl rfl ?_
    refine zo_iload_n (i := i_Tr_keep) (pc := 1) d_Tr_keep_1 rfl ?_
    refine zc_V1 (i := i_Tr_keep) (pc := 2) 8 rfl m_Tr_find (ztb_of k_596 rfl) (ztb_of k_343 rfl) s_Tr_find d_Tr_keep_2 (Nat.le_of_ble_eq_true rfl) (Nat.le_of_ble_eq_true rfl) (Nat.le_of_ble_eq_true rfl) (Nat.le_of_ble_eq_true rfl) (rw_head hs) (c_Tr_find hs hx hl ?_)
    rw [hf]
    refine zo_astore (i := i_Tr_keep) (pc := 5) d_Tr_keep_5 rfl (Nat.le_of_ble_eq_true rfl) ?_
    refine zo_aload (i := i_Tr_keep) (pc := 7) d_Tr_keep_7 rfl rfl ?_
    refine zo_ifnull (i := i_Tr_keep) (pc := 9) (tgt := 25) d_Tr_keep_9 (by decide) rfl (fun h9 => ?_) (fun h9 => False.elim (by first | exact absurd h9 ((by rintro ⟨_, q⟩; cases q)) | exact absurd ((by rintro ⟨_, q⟩; cases q)) h9))
    refine zo_aload_n (i := i_Tr_keep) (pc := 25) d_Tr_keep_25 rfl rfl ?_
    refine zo_get (i := i_Tr_keep) (pc := 26) 8 0 rfl zok_Tr (Nat.le_of_ble_eq_true rfl) (ztb_of k_121 rfl) d_Tr_keep_26 (fun _ _ _ h => h) (rw_head hs) rfl ?_
    refine zc_V0 (i := i_Tr_keep) (pc := 29) 0 rfl m_Al_size (ztb_of k_345 rfl) (ztb_of k_314 rfl) (ztb_of k_315 rfl) d_Tr_keep_29 (Nat.le_of_ble_eq_true rfl) (Nat.le_of_ble_eq_true rfl) (Nat.le_of_ble_eq_true rfl) (Nat.le_of_ble_eq_true rfl) (alW_head hsl) (c_al_size hsl ?_)
    rw [List.length_map]
    refine zo_aload_n (i := i_Tr_keep) (pc := 32) d_Tr_keep_32 rfl rfl ?_
    refine zo_get (i := i_Tr_keep) (pc := 33) 8 1 rfl zok_Tr (Nat.le_of_ble_eq_true rfl) (ztb_of k_122 rfl) d_Tr_keep_33 (fun _ _ _ h => h) (rw_head hs) rfl ?_
    refine zo_icmp_lt (i := i_Tr_keep) (pc := 36) (tgt := 58) d_Tr_keep_36 (by decide) (fun h36 => ?_) (fun h36 => ?_)
    · first
      | (rw [hm] at h36
         have hlt : els.length < n := Nat.not_le.mp fun q => absurd h36 (nI_nlt q (by omega))
         have hz : zcap n els = els := if_neg (by omega)
         have hl5 : els.length < 10 := by omega
         have hk : ∀ b d' m' w, (d' = none → False) → zHas w (rwW g 8 7 tdV r l d' m' [.int mo] (els ++ [(b, (a, x2, x3))]) ++ R) → post none w := fun b d' m' w hd h => k b d' m' w (fun q => (hd q).elim) (by unfold zkeep; rw [hf, hz]; exact h))
      | skip
      refine zo_aload_n (i := i_Tr_keep) (pc := 58) d_Tr_keep_58 rfl rfl ?_
      refine zo_get (i := i_Tr_keep) (pc := 59) 8 0 rfl zok_Tr (Nat.le_of_ble_eq_true rfl) (ztb_of k_121 rfl) d_Tr_keep_59 (fun _ _ _ h => h) (rw_head hs) rfl ?_
      refine zh_new (i := i_Tr_keep) (pc := 62) 7 rfl zok_Ti (ztb_of k_347 rfl) (ztb_of k_601 rfl) (ztb_of k_24 rfl) d_Tr_keep_62 (fs := [.int 0, .int 0, .int 0]) (by decide) (Nat.le_of_ble_eq_true rfl) (Nat.le_of_ble_eq_true rfl) hs fun a62 ws hs => ?_
      refine zo_dup (i := i_Tr_keep) (pc := 65) d_Tr_keep_65 rfl ?_
      refine zo_iload_n (i := i_Tr_keep) (pc := 66) d_Tr_keep_66 rfl ?_
      refine zo_iload_n (i := i_Tr_keep) (pc := 67) d_Tr_keep_67 rfl ?_
      refine zo_iload_n (i := i_Tr_keep) (pc := 68) d_Tr_keep_68 rfl ?_
      refine zc_IN3 (i := i_Tr_keep) (pc := 69) m_Ti_init rfl rfl (ztb_of k_602 rfl) (ztb_of k_603 rfl) d_Tr_keep_69 (Nat.le_of_ble_eq_true rfl) (Nat.le_of_ble_eq_true rfl) (Nat.le_of_ble_eq_true rfl) (Nat.le_of_ble_eq_true rfl) (c_Ti_init hs fun ws hs => ?_)
      have hs := hs.perm (List.perm_middle (a := (a62, .inr (7, tdV (a, x2, x3)))) (l₁ := rwW g 8 7 tdV r l d m [.int mo] els) (l₂ := R)).symm
      have hsl := rw_open hs
      have hxx : d = none → els.map Prod.fst = [] := fun h => by rw [hx h]; rfl
      refine zc_V1 (i := i_Tr_keep) (pc := 72) 0 rfl m_Al_add (ztb_of k_621 rfl) (ztb_of k_196 rfl) (ztb_of k_197 rfl) d_Tr_keep_72 (Nat.le_of_ble_eq_true rfl) (Nat.le_of_ble_eq_true rfl) (Nat.le_of_ble_eq_true rfl) (Nat.le_of_ble_eq_true rfl) (alW_head hsl) (c_al_add 7 rfl (ztb_of k_1174 rfl) (List.mem_cons_of_mem _ (List.mem_append_right _ List.mem_cons_self)) hsl hxx (by rw [List.length_map]; omega) fun d' m' ws hs => ?_)
      refine zo_pop (i := i_Tr_keep) (pc := 75) d_Tr_keep_75 rfl ?_
      refine zo_return (i := i_Tr_keep) (pc := 76) hq d_Tr_keep_76 rfl (Nat.le_of_ble_eq_true rfl) (Nat.le_of_ble_eq_true rfl) ?_
      exact hk a62 _ _ ws (fun q => by cases q) (rw_more hs)
    · rw [hm] at h36
      have hge : n ≤ els.length := Nat.not_lt.mp fun q => h36 (nI_lt q (by omega))
      refine zo_aload_n (i := i_Tr_keep) (pc := 39) d_Tr_keep_39 rfl rfl ?_
      refine zo_get (i := i_Tr_keep) (pc := 40) 8 0 rfl zok_Tr (Nat.le_of_ble_eq_true rfl) (ztb_of k_121 rfl) d_Tr_keep_40 (fun _ _ _ h => h) (rw_head hs) rfl ?_
      refine zc_V0 (i := i_Tr_keep) (pc := 43) 0 rfl m_Al_isEmpty (ztb_of k_597 rfl) (ztb_of k_598 rfl) (ztb_of k_599 rfl) d_Tr_keep_43 (Nat.le_of_ble_eq_true rfl) (Nat.le_of_ble_eq_true rfl) (Nat.le_of_ble_eq_true rfl) (Nat.le_of_ble_eq_true rfl) (alW_head hsl) (c_al_isEmpty hsl ?_)
      rw [List.length_map]
      refine zo_if_ne (i := i_Tr_keep) (pc := 46) (tgt := 58) d_Tr_keep_46 (by decide) (fun h46 => False.elim (by first | exact absurd h46 (by rw [if_neg (nI_ne0 (by omega) (by omega))]; decide) | exact absurd (by rw [if_neg (nI_ne0 (by omega) (by omega))]; decide) h46)) (fun h46 => ?_)
      obtain ⟨e, he⟩ := zidx (els := els) (i := 0) (by omega)
      refine zo_aload_n (i := i_Tr_keep) (pc := 49) d_Tr_keep_49 rfl rfl ?_
      refine zo_get (i := i_Tr_keep) (pc := 50) 8 0 rfl zok_Tr (Nat.le_of_ble_eq_true rfl) (ztb_of k_121 rfl) d_Tr_keep_50 (fun _ _ _ h => h) (rw_head hs) rfl ?_
      refine zo_iconst (i := i_Tr_keep) (pc := 53) (v := 0) d_Tr_keep_53 (by decide) ?_
      refine zc_V1 (i := i_Tr_keep) (pc := 54) 0 rfl m_Al_remove (ztb_of k_500 rfl) (ztb_of k_445 rfl) (ztb_of k_446 rfl) d_Tr_keep_54 (Nat.le_of_ble_eq_true rfl) (Nat.le_of_ble_eq_true rfl) (Nat.le_of_ble_eq_true rfl) (Nat.le_of_ble_eq_true rfl) (alW_head hsl) (c_al_remove (j := 0) 7 rfl (ztb_of k_1174 rfl) hxx hll (rw_idx he) rw_all hsl fun m ws hs => ?_)
      replace hs := rw_less 0 hs
      replace hx : d = none → els.eraseIdx 0 = [] := fun h => by rw [hx h]; rfl
      have hl5 : (els.eraseIdx 0).length < 10 := by rw [List.length_eraseIdx_of_lt (by omega)]; omega
      have hz : zcap n els = els.eraseIdx 0 := if_pos hge
      have hk : ∀ b d' m' w, (d' = none → False) → zHas w (rwW g 8 7 tdV r l d' m' [.int mo] (els.eraseIdx 0 ++ [(b, (a, x2, x3))]) ++ R) → post none w := fun b d' m' w hd h => k b d' m' w (fun q => (hd q).elim) (by unfold zkeep; rw [hf, hz]; exact h)
      clear k hz he hxx hsl hll h36 h46 hge hf hl6 hl
      generalize els.eraseIdx 0 = els at hs hx hl5 hk
      refine zo_pop (i := i_Tr_keep) (pc := 57) d_Tr_keep_57 rfl ?_
      first
      | (rw [hm] at h36
         have hlt : els.length < n := Nat.not_le.mp fun q => absurd h36 (nI_nlt q (by omega))
         have hz : zcap n els = els := if_neg (by omega)
         have hl5 : els.length < 10 := by omega
         have hk : ∀ b d' m' w, (d' = none → False) → zHas w (rwW g 8 7 tdV r l d' m' [.int mo] (els ++ [(b, (a, x2, x3))]) ++ R) → post none w := fun b d' m' w hd h => k b d' m' w (fun q => (hd q).elim) (by unfold zkeep; rw [hf, hz]; exact h))
      | skip
      refine zo_aload_n (i := i_Tr_keep) (pc := 58) d_Tr_keep_58 rfl rfl ?_
      refine zo_get (i := i_Tr_keep) (pc := 59) 8 0 rfl zok_Tr (Nat.le_of_ble_eq_true rfl) (ztb_of k_121 rfl) d_Tr_keep_59 (fun _ _ _ h => h) (rw_head hs) rfl ?_
      refine zh_new (i := i_Tr_keep) (pc := 62) 7 rfl zok_Ti (ztb_of k_347 rfl) (ztb_of k_601 rfl) (ztb_of k_24 rfl) d_Tr_keep_62 (fs := [.int 0, .int 0, .int 0]) (by decide) (Nat.le_of_ble_eq_true rfl) (Nat.le_of_ble_eq_true rfl) hs fun a62 ws hs => ?_
      refine zo_dup (i := i_Tr_keep) (pc := 65) d_Tr_keep_65 rfl ?_
      refine zo_iload_n (i := i_Tr_keep) (pc := 66) d_Tr_keep_66 rfl ?_
      refine zo_iload_n (i := i_Tr_keep) (pc := 67) d_Tr_keep_67 rfl ?_
      refine zo_iload_n (i := i_Tr_keep) (pc := 68) d_Tr_keep_68 rfl ?_
      refine zc_IN3 (i := i_Tr_keep) (pc := 69) m_Ti_init rfl rfl (ztb_of k_602 rfl) (ztb_of k_603 rfl) d_Tr_keep_69 (Nat.le_of_ble_eq_true rfl) (Nat.le_of_ble_eq_true rfl) (Nat.le_of_ble_eq_true rfl) (Nat.le_of_ble_eq_true rfl) (c_Ti_init hs fun ws hs => ?_)
      have hs := hs.perm (List.perm_middle (a := (a62, .inr (7, tdV (a, x2, x3)))) (l₁ := rwW g 8 7 tdV r l d m [.int mo] els) (l₂ := R)).symm
      have hsl := rw_open hs
      have hxx : d = none → els.map Prod.fst = [] := fun h => by rw [hx h]; rfl
      refine zc_V1 (i := i_Tr_keep) (pc := 72) 0 rfl m_Al_add (ztb_of k_621 rfl) (ztb_of k_196 rfl) (ztb_of k_197 rfl) d_Tr_keep_72 (Nat.le_of_ble_eq_true rfl) (Nat.le_of_ble_eq_true rfl) (Nat.le_of_ble_eq_true rfl) (Nat.le_of_ble_eq_true rfl) (alW_head hsl) (c_al_add 7 rfl (ztb_of k_1174 rfl) (List.mem_cons_of_mem _ (List.mem_append_right _ List.mem_cons_self)) hsl hxx (by rw [List.length_map]; omega) fun d' m' ws hs => ?_)
      refine zo_pop (i := i_Tr_keep) (pc := 75) d_Tr_keep_75 rfl ?_
      refine zo_return (i := i_Tr_keep) (pc := 76) hq d_Tr_keep_76 rfl (Nat.le_of_ble_eq_true rfl) (Nat.le_of_ble_eq_true rfl) ?_
      exact hk a62 _ _ ws (fun q => by cases q) (rw_more hs)
theorem c_Or_hasUsable {g : zG} {ws : va_W} {post : Option Value → va_W → Prop} {r l : Nat} {d : Option Nat} {m : Int32} {els : List (Nat × zOD)} {R : va_W} (hs : zHas ws (rwW g 6 5 odV r l d m [] els ++ R)) (hx : d = none → els = []) (hl : els.length ≤ 10) {b : Bool} (k : post (some (.int (zb (els.any (fun e : Nat × zOD => zusable e.2.2.2.1 && (zlocal e.2.1 == b)))))) ws) : zC g i_Or_hasUsable [.ref r, .int (zb b)] ws post := by
  refine zC.intro (by decide +kernel) rfl (Nat.le_of_ble_eq_true rfl) fun x hq => ?_
  have hsl := rw_open hs
  have hxx : d = none → els.map Prod.fst = [] := fun h => by rw [hx h]; rfl
  have hll : (els.map Prod.fst).length ≤ 10 := by rw [List.length_map]; exact hl
  have loop : ∀ (n i : Nat) (o : Option Value), i + n = els.length → (∀ y ∈ els.take i, (fun e : Nat × zOD => zusable e.2.2.2.1 && (zlocal e.2.1 == b)) y = false) → zW x g i_Or_hasUsable 2 [some (.ref r), some (.int (zb b)), some (.int (nI i)), o] [] ws 0 0 := by
    intro n
    induction n with
    | zero =>
      intro i o hi hno
      refine zo_iload_n (i := i_Or_hasUsable) (pc := 2) d_Or_hasUsable_2 rfl ?_
      refine zo_aload_n (i := i_Or_hasUsable) (pc := 3) d_Or_hasUsable_3 rfl rfl ?_
      refine zo_get (i := i_Or_hasUsable) (pc := 4) 6 0 rfl zok_Or (Nat.le_of_ble_eq_true rfl) (ztb_of k_97 rfl) d_Or_hasUsable_4 (fun _ _ _ h => h) (rw_head hs) rfl ?_
      refine zc_V0 (i := i_Or_hasUsable) (pc := 7) 0 rfl m_Al_size (ztb_of k_441 rfl) (ztb_of k_314 rfl) (ztb_of k_315 rfl) d_Or_hasUsable_7 (Nat.le_of_ble_eq_true rfl) (Nat.le_of_ble_eq_true rfl) (Nat.le_of_ble_eq_true rfl) (Nat.le_of_ble_eq_true rfl) (alW_head hsl) (c_al_size hsl ?_)
      refine zo_icmp_ge (i := i_Or_hasUsable) (pc := 10) (tgt := 51) d_Or_hasUsable_10 (by decide) (fun h10 => ?_) (fun h10 => False.elim (by first | exact absurd h10 (by rw [List.length_map]; exact nI_le (by omega) (by omega)) | exact absurd (by rw [List.length_map]; exact nI_le (by omega) (by omega)) h10))
      refine zo_iconst (i := i_Or_hasUsable) (pc := 51) (v := 0) d_Or_hasUsable_51 (by decide) ?_
      refine zo_zreturn (i := i_Or_hasUsable) (pc := 52) hq d_Or_hasUsable_52 rfl rfl (Nat.le_of_ble_eq_true rfl) (Nat.le_of_ble_eq_true rfl) ?_
      have e0 : els.any (fun e : Nat × zOD => zusable e.2.2.2.1 && (zlocal e.2.1 == b)) = false := by
        rw [List.take_of_length_le (by omega)] at hno
        exact List.any_eq_false.mpr fun y hy => by have h0 := hno y hy; exact fun q => absurd (h0.symm.trans q) (by decide)
      rw [e0] at k
      exact k
    | succ n ih =>
      intro i o hi hno
      obtain ⟨e, he⟩ := zidx (els := els) (i := i) (by omega)
      have hse := rw_el hs he
      refine zo_iload_n (i := i_Or_hasUsable) (pc := 2) d_Or_hasUsable_2 rfl ?_
      refine zo_aload_n (i := i_Or_hasUsable) (pc := 3) d_Or_hasUsable_3 rfl rfl ?_
      refine zo_get (i := i_Or_hasUsable) (pc := 4) 6 0 rfl zok_Or (Nat.le_of_ble_eq_true rfl) (ztb_of k_97 rfl) d_Or_hasUsable_4 (fun _ _ _ h => h) (rw_head hs) rfl ?_
      refine zc_V0 (i := i_Or_hasUsable) (pc := 7) 0 rfl m_Al_size (ztb_of k_441 rfl) (ztb_of k_314 rfl) (ztb_of k_315 rfl) d_Or_hasUsable_7 (Nat.le_of_ble_eq_true rfl) (Nat.le_of_ble_eq_true rfl) (Nat.le_of_ble_eq_true rfl) (Nat.le_of_ble_eq_true rfl) (alW_head hsl) (c_al_size hsl ?_)
      refine zo_icmp_ge (i := i_Or_hasUsable) (pc := 10) (tgt := 51) d_Or_hasUsable_10 (by decide) (fun h10 => False.elim (by first | exact absurd h10 (by rw [List.length_map]; exact nI_ge (by omega) (by omega)) | exact absurd (by rw [List.length_map]; exact nI_ge (by omega) (by omega)) h10)) (fun h10 => ?_)
      refine zo_aload_n (i := i_Or_hasUsable) (pc := 13) d_Or_hasUsable_13 rfl rfl ?_
      refine zo_get (i := i_Or_hasUsable) (pc := 14) 6 0 rfl zok_Or (Nat.le_of_ble_eq_true rfl) (ztb_of k_97 rfl) d_Or_hasUsable_14 (fun _ _ _ h => h) (rw_head hs) rfl ?_
      refine zo_iload_n (i := i_Or_hasUsable) (pc := 17) d_Or_hasUsable_17 rfl ?_
      refine zc_V1 (i := i_Or_hasUsable) (pc := 18) 0 rfl m_Al_get (ztb_of k_442 rfl) (ztb_of k_318 rfl) (ztb_of k_319 rfl) d_Or_hasUsable_18 (Nat.le_of_ble_eq_true rfl) (Nat.le_of_ble_eq_true rfl) (Nat.le_of_ble_eq_true rfl) (Nat.le_of_ble_eq_true rfl) (alW_head hsl) (c_al_get hsl hxx hll (rw_idx he) ?_)
      refine zo_cast (i := i_Or_hasUsable) (pc := 21) 5 rfl d_Or_hasUsable_21 (ztb_of k_443 rfl) (ztb_of k_1161 rfl) hse ?_
      refine zo_astore_n (i := i_Or_hasUsable) (pc := 24) d_Or_hasUsable_24 rfl (Nat.le_of_ble_eq_true rfl) ?_
      refine zo_aload_n (i := i_Or_hasUsable) (pc := 25) d_Or_hasUsable_25 rfl rfl ?_
      refine zc_VN0 (i := i_Or_hasUsable) (pc := 26) 5 rfl m_Oa_isUsable (ztb_of k_695 rfl) (ztb_of k_660 rfl) s_Oa_isUsable d_Or_hasUsable_26 (Nat.le_of_ble_eq_true rfl) (Nat.le_of_ble_eq_true rfl) (Nat.le_of_ble_eq_true rfl) (Nat.le_of_ble_eq_true rfl) hse (c_Oa_isUsable hse ?_)
      refine zo_if_eq (i := i_Or_hasUsable) (pc := 29) (tgt := 45) d_Or_hasUsable_29 (by decide) (fun h29 => ?_) (fun h29 => ?_)
      · refine zo_iinc (i := i_Or_hasUsable) (pc := 45) (v := nI (i + 1)) d_Or_hasUsable_45 rfl (nI_inc i) (Nat.le_of_ble_eq_true rfl) ?_
        refine zo_goto (i := i_Or_hasUsable) (pc := 48) (tgt := 2) d_Or_hasUsable_48 (by decide) ?_
        have hp : (fun e : Nat × zOD => zusable e.2.2.2.1 && (zlocal e.2.1 == b)) e = false := by
          first
            | (rw [zb_0] at h29; show (zusable e.2.2.2.1 && _) = false; rw [h29]; rfl)
            | (rw [zb_inj] at h40; show (_ && (zlocal e.2.1 == b)) = false; rw [beq_eq_false_iff_ne.mpr h40, Bool.and_false])
        exact ih (i + 1) _ (by omega) (ztake_succ hno he hp)
      · refine zo_aload_n (i := i_Or_hasUsable) (pc := 32) d_Or_hasUsable_32 rfl rfl ?_
        refine zo_getN (i := i_Or_hasUsable) (pc := 33) 5 0 rfl zok_Oa (Nat.le_of_ble_eq_true rfl) (ztb_of k_169 rfl) d_Or_hasUsable_33 (fun _ _ _ h => h) hse rfl ?_
        refine zc_SN1 (i := i_Or_hasUsable) (pc := 36) m_Ho_isLocal (ztb_of k_696 rfl) (ztb_of k_667 rfl) d_Or_hasUsable_36 (Nat.le_of_ble_eq_true rfl) (Nat.le_of_ble_eq_true rfl) (Nat.le_of_ble_eq_true rfl) (Nat.le_of_ble_eq_true rfl) (c_Ho_isLocal ?_)
        refine zo_iload_n (i := i_Or_hasUsable) (pc := 39) d_Or_hasUsable_39 rfl ?_
        refine zo_icmp_ne (i := i_Or_hasUsable) (pc := 40) (tgt := 45) d_Or_hasUsable_40 (by decide) (fun h40 => ?_) (fun h40 => ?_)
        · refine zo_iinc (i := i_Or_hasUsable) (pc := 45) (v := nI (i + 1)) d_Or_hasUsable_45 rfl (nI_inc i) (Nat.le_of_ble_eq_true rfl) ?_
          refine zo_goto (i := i_Or_hasUsable) (pc := 48) (tgt := 2) d_Or_hasUsable_48 (by decide) ?_
          have hp : (fun e : Nat × zOD => zusable e.2.2.2.1 && (zlocal e.2.1 == b)) e = false := by
            first
              | (rw [zb_0] at h29; show (zusable e.2.2.2.1 && _) = false; rw [h29]; rfl)
              | (rw [zb_inj] at h40; show (_ && (zlocal e.2.1 == b)) = false; rw [beq_eq_false_iff_ne.mpr h40, Bool.and_false])
          exact ih (i + 1) _ (by omega) (ztake_succ hno he hp)
        · refine zo_iconst (i := i_Or_hasUsable) (pc := 43) (v := 1) d_Or_hasUsable_43 (by decide) ?_
          refine zo_zreturn (i := i_Or_hasUsable) (pc := 44) hq d_Or_hasUsable_44 rfl rfl (Nat.le_of_ble_eq_true rfl) (Nat.le_of_ble_eq_true rfl) ?_
          have e0 : els.any (fun e : Nat × zOD => zusable e.2.2.2.1 && (zlocal e.2.1 == b)) = true := List.any_eq_true.mpr ⟨e, List.mem_of_getElem? he, by
            rw [zb_0, Bool.not_eq_false] at h29
            rw [zb_inj] at h40
            show (zusable e.2.2.2.1 && (zlocal e.2.1 == b)) = true
            rw [h29, h40]
            simp⟩
          rw [e0] at k
          exact k
  refine zo_iconst (i := i_Or_hasUsable) (pc := 0) (v := 0) d_Or_hasUsable_0 (by decide) ?_
  refine zo_istore_n (i := i_Or_hasUsable) (pc := 1) d_Or_hasUsable_1 (Nat.le_of_ble_eq_true rfl) ?_
  exact loop els.length 0 none (by omega) (fun y hy => by simp at hy)
