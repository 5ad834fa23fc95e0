/-! The model: a neighbour is made (walks by a program, gen57.py). -/
theorem c_Mo_makeNeighbour {g : zG} {ws : va_W} {post : Option Value → va_W → Prop} {B : Nat → Nat} {m : Nat → Int32} {F : Nat → Nat → Int32} {R : va_W} (hs : zHas ws (moW g B m F ++ R)) {n : Nat} {a s b : Int32} (hm : m 18 = nI n) (hn : n < 6) (k : ∀ w, zHas w (moW g B (mup m 18 (nI (n + 1))) (mup (mup (mup (mup (mup (mup F 19 (upd (F 19) n a)) 20 (upd (F 20) n b)) 21 (upd (F 21) n 0)) 24 (upd (F 24) n 0)) 22 (upd (F 22) n s)) 23 (upd (F 23) n (m 2))) ++ R) → post (some (.int (nI n))) w) : zC g i_Mo_makeNeighbour [.ref (B 0), .int a, .int s, .int b] ws post := by
  refine zC.intro (by decide +kernel) rfl (Nat.le_of_ble_eq_true rfl) fun x0 hq => ?_
  refine zo_aload_n (i := i_Mo_makeNeighbour) (pc := 0) d_Mo_makeNeighbour_0 rfl rfl ?_
  refine zo_get (i := i_Mo_makeNeighbour) (pc := 1) 10 18 rfl zok_Mo (Nat.le_of_ble_eq_true rfl) (ztb_of k_876 rfl) d_Mo_makeNeighbour_1 (fun _ _ _ h => h) (hs.get (t := 0) rfl) rfl ?_
  refine zo_bipush (i := i_Mo_makeNeighbour) (pc := 4) (v := 6) d_Mo_makeNeighbour_4 (by decide) ?_
  refine zo_icmp_ne (i := i_Mo_makeNeighbour) (pc := 6) (tgt := 14) d_Mo_makeNeighbour_6 (by decide) (fun h6 => ?_) (fun h6 => False.elim (by first | exact absurd h6 ((by rw [hm]; exact fun e => absurd ((nI_eq (b := 6) (by omega) (by decide)).mp e) (by omega))) | exact absurd ((by rw [hm]; exact fun e => absurd ((nI_eq (b := 6) (by omega) (by decide)).mp e) (by omega))) h6))
  refine zo_aload_n (i := i_Mo_makeNeighbour) (pc := 14) d_Mo_makeNeighbour_14 rfl rfl ?_
  refine zo_get (i := i_Mo_makeNeighbour) (pc := 15) 10 18 rfl zok_Mo (Nat.le_of_ble_eq_true rfl) (ztb_of k_876 rfl) d_Mo_makeNeighbour_15 (fun _ _ _ h => h) (hs.get (t := 0) rfl) rfl ?_
  refine zo_istore (i := i_Mo_makeNeighbour) (pc := 18) d_Mo_makeNeighbour_18 (Nat.le_of_ble_eq_true rfl) ?_
  rw [hm]
  refine zo_aload_n (i := i_Mo_makeNeighbour) (pc := 20) d_Mo_makeNeighbour_20 rfl rfl ?_
  refine zo_get (i := i_Mo_makeNeighbour) (pc := 21) 10 19 rfl zok_Mo (Nat.le_of_ble_eq_true rfl) (ztb_of k_877 rfl) d_Mo_makeNeighbour_21 (fun _ _ _ h => h) (hs.get (t := 0) rfl) rfl ?_
  refine zo_iload (i := i_Mo_makeNeighbour) (pc := 24) d_Mo_makeNeighbour_24 rfl ?_
  refine zo_iload_n (i := i_Mo_makeNeighbour) (pc := 26) d_Mo_makeNeighbour_26 rfl ?_
  refine zh_iastore (i := i_Mo_makeNeighbour) (pc := 27) d_Mo_makeNeighbour_27 hs 9 rfl (vp_in_nI (by omega) (by decide)) fun ws hs => ?_
  refine zo_aload_n (i := i_Mo_makeNeighbour) (pc := 28) d_Mo_makeNeighbour_28 rfl rfl ?_
  refine zo_get (i := i_Mo_makeNeighbour) (pc := 29) 10 20 rfl zok_Mo (Nat.le_of_ble_eq_true rfl) (ztb_of k_878 rfl) d_Mo_makeNeighbour_29 (fun _ _ _ h => h) (hs.get (t := 0) rfl) rfl ?_
  refine zo_iload (i := i_Mo_makeNeighbour) (pc := 32) d_Mo_makeNeighbour_32 rfl ?_
  refine zo_iload_n (i := i_Mo_makeNeighbour) (pc := 34) d_Mo_makeNeighbour_34 rfl ?_
  refine zh_iastore (i := i_Mo_makeNeighbour) (pc := 35) d_Mo_makeNeighbour_35 hs 10 rfl (vp_in_nI (by omega) (by decide)) fun ws hs => ?_
  refine zo_aload_n (i := i_Mo_makeNeighbour) (pc := 36) d_Mo_makeNeighbour_36 rfl rfl ?_
  refine zo_get (i := i_Mo_makeNeighbour) (pc := 37) 10 21 rfl zok_Mo (Nat.le_of_ble_eq_true rfl) (ztb_of k_879 rfl) d_Mo_makeNeighbour_37 (fun _ _ _ h => h) (hs.get (t := 0) rfl) rfl ?_
  refine zo_iload (i := i_Mo_makeNeighbour) (pc := 40) d_Mo_makeNeighbour_40 rfl ?_
  refine zo_iconst (i := i_Mo_makeNeighbour) (pc := 42) (v := 0) d_Mo_makeNeighbour_42 (by decide) ?_
  refine zh_zastore (i := i_Mo_makeNeighbour) (pc := 43) d_Mo_makeNeighbour_43 hs 11 rfl (vp_in_nI (by omega) (by decide)) fun ws hs => ?_
  refine zo_aload_n (i := i_Mo_makeNeighbour) (pc := 44) d_Mo_makeNeighbour_44 rfl rfl ?_
  refine zo_get (i := i_Mo_makeNeighbour) (pc := 45) 10 24 rfl zok_Mo (Nat.le_of_ble_eq_true rfl) (ztb_of k_882 rfl) d_Mo_makeNeighbour_45 (fun _ _ _ h => h) (hs.get (t := 0) rfl) rfl ?_
  refine zo_iload (i := i_Mo_makeNeighbour) (pc := 48) d_Mo_makeNeighbour_48 rfl ?_
  refine zo_iconst (i := i_Mo_makeNeighbour) (pc := 50) (v := 0) d_Mo_makeNeighbour_50 (by decide) ?_
  refine zh_iastore (i := i_Mo_makeNeighbour) (pc := 51) d_Mo_makeNeighbour_51 hs 14 rfl (vp_in_nI (by omega) (by decide)) fun ws hs => ?_
  refine zo_aload_n (i := i_Mo_makeNeighbour) (pc := 52) d_Mo_makeNeighbour_52 rfl rfl ?_
  refine zo_dup (i := i_Mo_makeNeighbour) (pc := 53) d_Mo_makeNeighbour_53 rfl ?_
  refine zo_get (i := i_Mo_makeNeighbour) (pc := 54) 10 18 rfl zok_Mo (Nat.le_of_ble_eq_true rfl) (ztb_of k_876 rfl) d_Mo_makeNeighbour_54 (fun _ _ _ h => h) (hs.get (t := 0) rfl) rfl ?_
  refine zo_iconst (i := i_Mo_makeNeighbour) (pc := 57) (v := 1) d_Mo_makeNeighbour_57 (by decide) ?_
  refine zo_iadd (i := i_Mo_makeNeighbour) (pc := 58) d_Mo_makeNeighbour_58 ?_
  refine zh_put (i := i_Mo_makeNeighbour) (pc := 59) 10 18 rfl zok_Mo (Nat.le_of_ble_eq_true rfl) (ztb_of k_876 rfl) rfl d_Mo_makeNeighbour_59 (fun _ _ _ h => h) (t_Mo_ok 18 (Nat.le_of_ble_eq_true rfl)) rfl rfl hs 0 rfl (Nat.le_of_ble_eq_true rfl) fun ws hs => ?_
  refine zo_aload_n (i := i_Mo_makeNeighbour) (pc := 62) d_Mo_makeNeighbour_62 rfl rfl ?_
  refine zo_iload (i := i_Mo_makeNeighbour) (pc := 63) d_Mo_makeNeighbour_63 rfl ?_
  refine zo_iload_n (i := i_Mo_makeNeighbour) (pc := 65) d_Mo_makeNeighbour_65 rfl ?_
  replace hs : zHas ws (moW g B (mup m 18 (m 18 + 1)) (mup (mup (mup (mup F 19 (upd (F 19) (nI n).toNatClampNeg a)) 20 (upd (F 20) (nI n).toNatClampNeg b)) 21 (upd (F 21) (nI n).toNatClampNeg 0)) 24 (upd (F 24) (nI n).toNatClampNeg 0)) ++ R) := hs
  rw [nI_clamp (show n < 2 ^ 31 by omega), hm, nI_1] at hs
  refine zc_V2 (i := i_Mo_makeNeighbour) (pc := 66) 10 rfl m_Mo_turn (ztb_of k_984 rfl) (ztb_of k_986 rfl) s_Mo_turn d_Mo_makeNeighbour_66 (Nat.le_of_ble_eq_true rfl) (Nat.le_of_ble_eq_true rfl) (Nat.le_of_ble_eq_true rfl) (Nat.le_of_ble_eq_true rfl) (hs.get (t := 0) rfl) (c_Mo_turn hs (show n < 7 by omega) fun ws hs => ?_)
  refine zo_iload (i := i_Mo_makeNeighbour) (pc := 69) d_Mo_makeNeighbour_69 rfl ?_
  refine zo_ireturn (i := i_Mo_makeNeighbour) (pc := 71) hq d_Mo_makeNeighbour_71 rfl (Nat.le_of_ble_eq_true rfl) (Nat.le_of_ble_eq_true rfl) ?_
  exact k ws hs
theorem c_Mo_makeNeighbour6 {g : zG} {ws : va_W} {post : Option Value → va_W → Prop} {B : Nat → Nat} {m : Nat → Int32} {F : Nat → Nat → Int32} {R : va_W} (hs : zHas ws (moW g B m F ++ R)) {a s b : Int32} (hm : m 18 = nI 6) (hz : ∀ t, vp_nar .boolean (F 21 t) = F 21 t) (k : ∀ w, zHas w (moW g B (mup (mup m 18 (nI 5)) 18 (nI 6)) (mup (mup (mup (mup (mup (mup (mup (mup (mup (mup (mup (mup F 19 (shf (F 19) 0 5)) 20 (shf (F 20) 0 5)) 21 (shf (F 21) 0 5)) 22 (shf (F 22) 0 5)) 23 (shf (F 23) 0 5)) 24 (shf (F 24) 0 5)) 19 (upd (shf (F 19) 0 5) 5 a)) 20 (upd (shf (F 20) 0 5) 5 b)) 21 (upd (shf (F 21) 0 5) 5 0)) 24 (upd (shf (F 24) 0 5) 5 0)) 22 (upd (shf (F 22) 0 5) 5 s)) 23 (upd (shf (F 23) 0 5) 5 (m 2))) ++ R) → post (some (.int (nI 5))) w) : zC g i_Mo_makeNeighbour [.ref (B 0), .int a, .int s, .int b] ws post := by
  refine zC.intro (by decide +kernel) rfl (Nat.le_of_ble_eq_true rfl) fun x0 hq => ?_
  refine zo_aload_n (i := i_Mo_makeNeighbour) (pc := 0) d_Mo_makeNeighbour_0 rfl rfl ?_
  refine zo_get (i := i_Mo_makeNeighbour) (pc := 1) 10 18 rfl zok_Mo (Nat.le_of_ble_eq_true rfl) (ztb_of k_876 rfl) d_Mo_makeNeighbour_1 (fun _ _ _ h => h) (hs.get (t := 0) rfl) rfl ?_
  refine zo_bipush (i := i_Mo_makeNeighbour) (pc := 4) (v := 6) d_Mo_makeNeighbour_4 (by decide) ?_
  refine zo_icmp_ne (i := i_Mo_makeNeighbour) (pc := 6) (tgt := 14) d_Mo_makeNeighbour_6 (by decide) (fun h6 => False.elim (by first | exact absurd h6 ((by rw [hm]; rfl)) | exact absurd ((by rw [hm]; rfl)) h6)) (fun h6 => ?_)
  refine zo_aload_n (i := i_Mo_makeNeighbour) (pc := 9) d_Mo_makeNeighbour_9 rfl rfl ?_
  refine zo_iconst (i := i_Mo_makeNeighbour) (pc := 10) (v := 0) d_Mo_makeNeighbour_10 (by decide) ?_
  refine zc_V1 (i := i_Mo_makeNeighbour) (pc := 11) 10 rfl m_Mo_dropNeighbour (ztb_of k_988 rfl) (ztb_of k_990 rfl) s_Mo_dropNeighbour d_Mo_makeNeighbour_11 (Nat.le_of_ble_eq_true rfl) (Nat.le_of_ble_eq_true rfl) (Nat.le_of_ble_eq_true rfl) (Nat.le_of_ble_eq_true rfl) (hs.get (t := 0) rfl) (c_Mo_dropNeighbour (n := 5) (i := 0) hs hm (by decide) (by decide) hz fun ws hs => ?_)
  refine zo_aload_n (i := i_Mo_makeNeighbour) (pc := 14) d_Mo_makeNeighbour_14 rfl rfl ?_
  refine zo_get (i := i_Mo_makeNeighbour) (pc := 15) 10 18 rfl zok_Mo (Nat.le_of_ble_eq_true rfl) (ztb_of k_876 rfl) d_Mo_makeNeighbour_15 (fun _ _ _ h => h) (hs.get (t := 0) rfl) rfl ?_
  refine zo_istore (i := i_Mo_makeNeighbour) (pc := 18) d_Mo_makeNeighbour_18 (Nat.le_of_ble_eq_true rfl) ?_
  refine zo_aload_n (i := i_Mo_makeNeighbour) (pc := 20) d_Mo_makeNeighbour_20 rfl rfl ?_
  refine zo_get (i := i_Mo_makeNeighbour) (pc := 21) 10 19 rfl zok_Mo (Nat.le_of_ble_eq_true rfl) (ztb_of k_877 rfl) d_Mo_makeNeighbour_21 (fun _ _ _ h => h) (hs.get (t := 0) rfl) rfl ?_
  refine zo_iload (i := i_Mo_makeNeighbour) (pc := 24) d_Mo_makeNeighbour_24 rfl ?_
  refine zo_iload_n (i := i_Mo_makeNeighbour) (pc := 26) d_Mo_makeNeighbour_26 rfl ?_
  refine zh_iastore (i := i_Mo_makeNeighbour) (pc := 27) d_Mo_makeNeighbour_27 hs 9 rfl (vp_in_nI (n := 5) (by decide) (by decide)) fun ws hs => ?_
  refine zo_aload_n (i := i_Mo_makeNeighbour) (pc := 28) d_Mo_makeNeighbour_28 rfl rfl ?_
  refine zo_get (i := i_Mo_makeNeighbour) (pc := 29) 10 20 rfl zok_Mo (Nat.le_of_ble_eq_true rfl) (ztb_of k_878 rfl) d_Mo_makeNeighbour_29 (fun _ _ _ h => h) (hs.get (t := 0) rfl) rfl ?_
  refine zo_iload (i := i_Mo_makeNeighbour) (pc := 32) d_Mo_makeNeighbour_32 rfl ?_
  refine zo_iload_n (i := i_Mo_makeNeighbour) (pc := 34) d_Mo_makeNeighbour_34 rfl ?_
  refine zh_iastore (i := i_Mo_makeNeighbour) (pc := 35) d_Mo_makeNeighbour_35 hs 10 rfl (vp_in_nI (n := 5) (by decide) (by decide)) fun ws hs => ?_
  refine zo_aload_n (i := i_Mo_makeNeighbour) (pc := 36) d_Mo_makeNeighbour_36 rfl rfl ?_
  refine zo_get (i := i_Mo_makeNeighbour) (pc := 37) 10 21 rfl zok_Mo (Nat.le_of_ble_eq_true rfl) (ztb_of k_879 rfl) d_Mo_makeNeighbour_37 (fun _ _ _ h => h) (hs.get (t := 0) rfl) rfl ?_
  refine zo_iload (i := i_Mo_makeNeighbour) (pc := 40) d_Mo_makeNeighbour_40 rfl ?_
  refine zo_iconst (i := i_Mo_makeNeighbour) (pc := 42) (v := 0) d_Mo_makeNeighbour_42 (by decide) ?_
  refine zh_zastore (i := i_Mo_makeNeighbour) (pc := 43) d_Mo_makeNeighbour_43 hs 11 rfl (vp_in_nI (n := 5) (by decide) (by decide)) fun ws hs => ?_
  refine zo_aload_n (i := i_Mo_makeNeighbour) (pc := 44) d_Mo_makeNeighbour_44 rfl rfl ?_
  refine zo_get (i := i_Mo_makeNeighbour) (pc := 45) 10 24 rfl zok_Mo (Nat.le_of_ble_eq_true rfl) (ztb_of k_882 rfl) d_Mo_makeNeighbour_45 (fun _ _ _ h => h) (hs.get (t := 0) rfl) rfl ?_
  refine zo_iload (i := i_Mo_makeNeighbour) (pc := 48) d_Mo_makeNeighbour_48 rfl ?_
  refine zo_iconst (i := i_Mo_makeNeighbour) (pc := 50) (v := 0) d_Mo_makeNeighbour_50 (by decide) ?_
  refine zh_iastore (i := i_Mo_makeNeighbour) (pc := 51) d_Mo_makeNeighbour_51 hs 14 rfl (vp_in_nI (n := 5) (by decide) (by decide)) fun ws hs => ?_
  refine zo_aload_n (i := i_Mo_makeNeighbour) (pc := 52) d_Mo_makeNeighbour_52 rfl rfl ?_
  refine zo_dup (i := i_Mo_makeNeighbour) (pc := 53) d_Mo_makeNeighbour_53 rfl ?_
  refine zo_get (i := i_Mo_makeNeighbour) (pc := 54) 10 18 rfl zok_Mo (Nat.le_of_ble_eq_true rfl) (ztb_of k_876 rfl) d_Mo_makeNeighbour_54 (fun _ _ _ h => h) (hs.get (t := 0) rfl) rfl ?_
  refine zo_iconst (i := i_Mo_makeNeighbour) (pc := 57) (v := 1) d_Mo_makeNeighbour_57 (by decide) ?_
  refine zo_iadd (i := i_Mo_makeNeighbour) (pc := 58) d_Mo_makeNeighbour_58 ?_
  refine zh_put (i := i_Mo_makeNeighbour) (pc := 59) 10 18 rfl zok_Mo (Nat.le_of_ble_eq_true rfl) (ztb_of k_876 rfl) rfl d_Mo_makeNeighbour_59 (fun _ _ _ h => h) (t_Mo_ok 18 (Nat.le_of_ble_eq_true rfl)) rfl rfl hs 0 rfl (Nat.le_of_ble_eq_true rfl) fun ws hs => ?_
  refine zo_aload_n (i := i_Mo_makeNeighbour) (pc := 62) d_Mo_makeNeighbour_62 rfl rfl ?_
  refine zo_iload (i := i_Mo_makeNeighbour) (pc := 63) d_Mo_makeNeighbour_63 rfl ?_
  refine zo_iload_n (i := i_Mo_makeNeighbour) (pc := 65) d_Mo_makeNeighbour_65 rfl ?_
  replace hs : zHas ws (moW g B (mup (mup m 18 (nI 5)) 18 (nI 6)) (mup (mup (mup (mup (mup (mup (mup (mup (mup (mup F 19 (shf (F 19) 0 5)) 20 (shf (F 20) 0 5)) 21 (shf (F 21) 0 5)) 22 (shf (F 22) 0 5)) 23 (shf (F 23) 0 5)) 24 (shf (F 24) 0 5)) 19 (upd (shf (F 19) 0 5) 5 a)) 20 (upd (shf (F 20) 0 5) 5 b)) 21 (upd (shf (F 21) 0 5) 5 0)) 24 (upd (shf (F 24) 0 5) 5 0)) ++ R) := hs.eq rfl
  refine zc_V2 (i := i_Mo_makeNeighbour) (pc := 66) 10 rfl m_Mo_turn (ztb_of k_984 rfl) (ztb_of k_986 rfl) s_Mo_turn d_Mo_makeNeighbour_66 (Nat.le_of_ble_eq_true rfl) (Nat.le_of_ble_eq_true rfl) (Nat.le_of_ble_eq_true rfl) (Nat.le_of_ble_eq_true rfl) (hs.get (t := 0) rfl) (c_Mo_turn (j := 5) hs (by decide) fun ws hs => ?_)
  refine zo_iload (i := i_Mo_makeNeighbour) (pc := 69) d_Mo_makeNeighbour_69 rfl ?_
  refine zo_ireturn (i := i_Mo_makeNeighbour) (pc := 71) hq d_Mo_makeNeighbour_71 rfl (Nat.le_of_ble_eq_true rfl) (Nat.le_of_ble_eq_true rfl) ?_
  exact k ws hs
