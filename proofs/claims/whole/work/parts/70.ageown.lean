/-! The model by states: own addresses age (walks by a program, gen70.py). -/
theorem l_ageOwn {g : zG} {ws : va_W} {post : Option Value → va_W → Prop} {B : Nat → Nat} {q : hT} {t : Int32} {R : va_W} (h : mS g B q t R ws) {c : Nat} (hc : c < 999999) (ht : q.1.2.1 = nI (c + 1)) (hv : ∀ x ∈ q.2.2.1, oI c false x) (hu : q.2.1.1 + 5 < 2147483648) (k : ∀ w, mS g B (tU (tO q ((q.2.2.1.filter (fun x : zOD => decide (nI (c + 1) < x.2.2.2.1))).map (oaA (nI (c + 1))))) (uOwT (nI (c + 1)) (q.2.2.1.filter (fun x : zOD => decide (nI (c + 1) < x.2.2.2.1))) q.2.1)) t R w → post none w) : zC g i_Mo_ageOwn [.ref (B 0)] ws post := by
  refine zC.intro (by decide +kernel) rfl (Nat.le_of_ble_eq_true rfl) fun x0 hq => ?_
  obtain ⟨m, F, hr, hs⟩ := h
  have hl5 := hr.2.2.1.2.1
  have loop2 : ∀ (rest done : List zOD) (u : hOu) (ws : va_W) (i o : Option Value), mS g B (tU (tO q (done ++ rest)) u) t R ws → done ++ rest.map (oaA (nI (c + 1))) = (q.2.2.1.filter (fun x : zOD => decide (nI (c + 1) < x.2.2.2.1))).map (oaA (nI (c + 1))) → uOwT (nI (c + 1)) rest u = uOwT (nI (c + 1)) (q.2.2.1.filter (fun x : zOD => decide (nI (c + 1) < x.2.2.2.1))) q.2.1 → (∀ x ∈ rest, oI c false x) → u.1 + rest.length < 2147483648 → zW x0 g i_Mo_ageOwn 39 [some (.ref (B 0)), i, some (.int (nI done.length)), o] [] ws 0 0 := by
    intro rest
    induction rest with
    | nil =>
      intro done u ws i o hS hd hue hvv hul
      obtain ⟨m, F, hr, hs⟩ := hS
      have e12 : m 12 = nI done.length := by rw [hr.2.2.1.1]; show nI (done ++ []).length = _; rw [List.append_nil]
      have hlen : done.length ≤ 5 := by have := hr.2.2.1.2.1; rw [show (tU (tO q (done ++ [])) u).2.2.1 = done ++ [] from rfl, List.append_nil] at this; exact this
      refine zo_iload_n (i := i_Mo_ageOwn) (pc := 39) d_Mo_ageOwn_39 rfl ?_
      refine zo_aload_n (i := i_Mo_ageOwn) (pc := 40) d_Mo_ageOwn_40 rfl rfl ?_
      refine zo_get (i := i_Mo_ageOwn) (pc := 41) 10 12 rfl zok_Mo (Nat.le_of_ble_eq_true rfl) (ztb_of k_870 rfl) d_Mo_ageOwn_41 (fun _ _ _ h => h) (hs.get (t := 0) rfl) rfl ?_
      refine zo_icmp_ge (i := i_Mo_ageOwn) (pc := 44) (tgt := 140) d_Mo_ageOwn_44 (by decide) (fun h44 => ?_) (fun h44 => False.elim (by first | exact absurd h44 ((by rw [e12]; exact nI_le (Nat.le_refl _) (by omega))) | exact absurd ((by rw [e12]; exact nI_le (Nat.le_refl _) (by omega))) h44))
      refine zo_return (i := i_Mo_ageOwn) (pc := 140) hq d_Mo_ageOwn_140 rfl (Nat.le_of_ble_eq_true rfl) (Nat.le_of_ble_eq_true rfl) ?_
      rw [show uOwT (nI (c + 1)) [] u = u from rfl] at hue
      rw [List.map_nil] at hd
      rw [hd, hue] at hr
      exact k ws ⟨_, _, hr, hs⟩
    | cons x r ih =>
      intro done u ws i o hS hd hue hvv hul
      obtain ⟨m, F, hr, hs⟩ := hS
      have e12 : m 12 = nI (done.length + (r.length + 1)) := by rw [hr.2.2.1.1]; show nI (done ++ x :: r).length = _; rw [List.length_append, List.length_cons]
      have hlen : done.length + (r.length + 1) ≤ 5 := by have := hr.2.2.1.2.1; rw [show (tU (tO q (done ++ x :: r)) u).2.2.1 = done ++ x :: r from rfl, List.length_append, List.length_cons] at this; exact this
      have hx : (tU (tO q (done ++ x :: r)) u).2.2.1[done.length]? = some x := mid done r x
      have hxv := hvv x List.mem_cons_self
      have hvr : ∀ y ∈ r, oI c false y := fun y hy => hvv y (List.mem_cons_of_mem _ hy)
      rw [List.length_cons] at hul
      obtain ⟨o13, o14, o15, o16, o17, ho6⟩ := hr.ow hx
      have hm2 : m 2 = nI (c + 1) := hr.1.2.2.1.trans ht
      have hn1 : ∀ y : zOD, nI (done.length + 1) = nI (done ++ [y]).length := fun y => by rw [List.length_append]; rfl
      rw [List.map_cons] at hd
      rw [show uOwT (nI (c + 1)) (x :: r) u = uOwT (nI (c + 1)) r (if oaP (nI (c + 1)) x then ouAdd u 1 65535 x.1 else u) from rfl] at hue
      refine zo_iload_n (i := i_Mo_ageOwn) (pc := 39) d_Mo_ageOwn_39 rfl ?_
      refine zo_aload_n (i := i_Mo_ageOwn) (pc := 40) d_Mo_ageOwn_40 rfl rfl ?_
      refine zo_get (i := i_Mo_ageOwn) (pc := 41) 10 12 rfl zok_Mo (Nat.le_of_ble_eq_true rfl) (ztb_of k_870 rfl) d_Mo_ageOwn_41 (fun _ _ _ h => h) (hs.get (t := 0) rfl) rfl ?_
      refine zo_icmp_ge (i := i_Mo_ageOwn) (pc := 44) (tgt := 140) d_Mo_ageOwn_44 (by decide) (fun h44 => False.elim (by first | exact absurd h44 ((by rw [e12]; exact nI_ge (by omega) (by omega))) | exact absurd ((by rw [e12]; exact nI_ge (by omega) (by omega))) h44)) (fun h44 => ?_)
      refine zo_aload_n (i := i_Mo_ageOwn) (pc := 47) d_Mo_ageOwn_47 rfl rfl ?_
      refine zo_get (i := i_Mo_ageOwn) (pc := 48) 10 16 rfl zok_Mo (Nat.le_of_ble_eq_true rfl) (ztb_of k_874 rfl) d_Mo_ageOwn_48 (fun _ _ _ h => h) (hs.get (t := 0) rfl) rfl ?_
      refine zo_iload_n (i := i_Mo_ageOwn) (pc := 51) d_Mo_ageOwn_51 rfl ?_
      refine zo_iaload (i := i_Mo_ageOwn) (pc := 52) d_Mo_ageOwn_52 (hs.get (t := 7) rfl) (vp_in_nI (by omega) (by decide)) ?_
      refine zo_aload_n (i := i_Mo_ageOwn) (pc := 53) d_Mo_ageOwn_53 rfl rfl ?_
      refine zo_get (i := i_Mo_ageOwn) (pc := 54) 10 2 rfl zok_Mo (Nat.le_of_ble_eq_true rfl) (ztb_of k_860 rfl) d_Mo_ageOwn_54 (fun _ _ _ h => h) (hs.get (t := 0) rfl) rfl ?_
      refine zo_icmp_gt (i := i_Mo_ageOwn) (pc := 57) (tgt := 64) d_Mo_ageOwn_57 (by decide) (fun h57 => ?_) (fun h57 => ?_)
      · rw [o16, hm2] at h57
        refine zo_iconst (i := i_Mo_ageOwn) (pc := 64) (v := 2) d_Mo_ageOwn_64 (by decide) ?_
        refine zo_istore_n (i := i_Mo_ageOwn) (pc := 65) d_Mo_ageOwn_65 (Nat.le_of_ble_eq_true rfl) ?_
        refine zo_aload_n (i := i_Mo_ageOwn) (pc := 66) d_Mo_ageOwn_66 rfl rfl ?_
        refine zo_get (i := i_Mo_ageOwn) (pc := 67) 10 14 rfl zok_Mo (Nat.le_of_ble_eq_true rfl) (ztb_of k_872 rfl) d_Mo_ageOwn_67 (fun _ _ _ h => h) (hs.get (t := 0) rfl) rfl ?_
        refine zo_iload_n (i := i_Mo_ageOwn) (pc := 70) d_Mo_ageOwn_70 rfl ?_
        refine zo_iaload (i := i_Mo_ageOwn) (pc := 71) d_Mo_ageOwn_71 (hs.get (t := 5) rfl) (vp_in_nI (by omega) (by decide)) ?_
        refine zo_iconst (i := i_Mo_ageOwn) (pc := 72) (v := 1) d_Mo_ageOwn_72 (by decide) ?_
        refine zo_icmp_ne (i := i_Mo_ageOwn) (pc := 73) (tgt := 107) d_Mo_ageOwn_73 (by decide) (fun h73 => ?_) (fun h73 => ?_)
        · rw [o14] at h73
          refine zo_aload_n (i := i_Mo_ageOwn) (pc := 107) d_Mo_ageOwn_107 rfl rfl ?_
          refine zo_get (i := i_Mo_ageOwn) (pc := 108) 10 14 rfl zok_Mo (Nat.le_of_ble_eq_true rfl) (ztb_of k_872 rfl) d_Mo_ageOwn_108 (fun _ _ _ h => h) (hs.get (t := 0) rfl) rfl ?_
          refine zo_iload_n (i := i_Mo_ageOwn) (pc := 111) d_Mo_ageOwn_111 rfl ?_
          refine zo_iaload (i := i_Mo_ageOwn) (pc := 112) d_Mo_ageOwn_112 (hs.get (t := 5) rfl) (vp_in_nI (by omega) (by decide)) ?_
          refine zo_iconst (i := i_Mo_ageOwn) (pc := 113) (v := 1) d_Mo_ageOwn_113 (by decide) ?_
          refine zo_icmp_eq (i := i_Mo_ageOwn) (pc := 114) (tgt := 127) d_Mo_ageOwn_114 (by decide) (fun h114 => False.elim (by first | exact absurd h114 ((by rw [o14]; exact h73)) | exact absurd ((by rw [o14]; exact h73)) h114)) (fun h114 => ?_)
          refine zo_aload_n (i := i_Mo_ageOwn) (pc := 117) d_Mo_ageOwn_117 rfl rfl ?_
          refine zo_get (i := i_Mo_ageOwn) (pc := 118) 10 14 rfl zok_Mo (Nat.le_of_ble_eq_true rfl) (ztb_of k_872 rfl) d_Mo_ageOwn_118 (fun _ _ _ h => h) (hs.get (t := 0) rfl) rfl ?_
          refine zo_iload_n (i := i_Mo_ageOwn) (pc := 121) d_Mo_ageOwn_121 rfl ?_
          refine zo_iaload (i := i_Mo_ageOwn) (pc := 122) d_Mo_ageOwn_122 (hs.get (t := 5) rfl) (vp_in_nI (by omega) (by decide)) ?_
          refine zo_iconst (i := i_Mo_ageOwn) (pc := 123) (v := 2) d_Mo_ageOwn_123 (by decide) ?_
          refine zo_icmp_ne (i := i_Mo_ageOwn) (pc := 124) (tgt := 134) d_Mo_ageOwn_124 (by decide) (fun h124 => ?_) (fun h124 => ?_)
          · refine zo_iinc (i := i_Mo_ageOwn) (pc := 134) (v := nI (done.length + 1)) d_Mo_ageOwn_134 rfl (nI_inc done.length) (Nat.le_of_ble_eq_true rfl) ?_
            refine zo_goto (i := i_Mo_ageOwn) (pc := 137) (tgt := 39) d_Mo_ageOwn_137 (by decide) ?_
            rw [o14] at h124
            obtain ⟨f1, f2⟩ := own_stay (t := nI (c + 1)) h73 h124
            rw [f2, mid_next] at hd
            rw [f1, if_neg (by decide)] at hue
            rw [hn1 x]
            refine ih (done ++ [x]) u ws i _ ⟨m, F, ?_, hs⟩ hd hue hvr (by omega)
            rw [← mid_next]
            exact hr
          · refine zo_aload_n (i := i_Mo_ageOwn) (pc := 127) d_Mo_ageOwn_127 rfl rfl ?_
            refine zo_get (i := i_Mo_ageOwn) (pc := 128) 10 14 rfl zok_Mo (Nat.le_of_ble_eq_true rfl) (ztb_of k_872 rfl) d_Mo_ageOwn_128 (fun _ _ _ h => h) (hs.get (t := 0) rfl) rfl ?_
            refine zo_iload_n (i := i_Mo_ageOwn) (pc := 131) d_Mo_ageOwn_131 rfl ?_
            refine zo_iload_n (i := i_Mo_ageOwn) (pc := 132) d_Mo_ageOwn_132 rfl ?_
            refine zh_iastore (i := i_Mo_ageOwn) (pc := 133) d_Mo_ageOwn_133 hs 5 rfl (vp_in_nI (by omega) (by decide)) fun ws hs => ?_
            refine zo_iinc (i := i_Mo_ageOwn) (pc := 134) (v := nI (done.length + 1)) d_Mo_ageOwn_134 rfl (nI_inc done.length) (Nat.le_of_ble_eq_true rfl) ?_
            refine zo_goto (i := i_Mo_ageOwn) (pc := 137) (tgt := 39) d_Mo_ageOwn_137 (by decide) ?_
            rw [o14] at h124
            obtain ⟨f1, f2⟩ := own_fit (by omega) hxv (fun hh => h73 hh.1) (.inr h124)
            rw [if_neg (Int32.not_le.mpr h57)] at f2
            rw [f2, mid_next] at hd
            rw [f1, if_neg (by decide)] at hue
            replace hs : zHas ws (moW g B m (mup F 14 (upd (F 14) (nI done.length).toNatClampNeg 2)) ++ R) := hs
            rw [nI_clamp (show done.length < 2 ^ 31 by omega)] at hs
            have hr2 := hr.ownState (v := 2) hx
            rw [hn1 (oaS x 2)]
            refine ih (done ++ [oaS x 2]) u ws i _ ⟨m, _, ?_, hs⟩ hd hue hvr (by omega)
            rw [show (tU (tO q (done ++ x :: r)) u).2.2.1 = done ++ x :: r from rfl, mid_set] at hr2
            exact hr2
        · rw [o14] at h73
          refine zo_aload_n (i := i_Mo_ageOwn) (pc := 76) d_Mo_ageOwn_76 rfl rfl ?_
          refine zo_get (i := i_Mo_ageOwn) (pc := 77) 10 2 rfl zok_Mo (Nat.le_of_ble_eq_true rfl) (ztb_of k_860 rfl) d_Mo_ageOwn_77 (fun _ _ _ h => h) (hs.get (t := 0) rfl) rfl ?_
          refine zo_aload_n (i := i_Mo_ageOwn) (pc := 80) d_Mo_ageOwn_80 rfl rfl ?_
          refine zo_get (i := i_Mo_ageOwn) (pc := 81) 10 15 rfl zok_Mo (Nat.le_of_ble_eq_true rfl) (ztb_of k_873 rfl) d_Mo_ageOwn_81 (fun _ _ _ h => h) (hs.get (t := 0) rfl) rfl ?_
          refine zo_iload_n (i := i_Mo_ageOwn) (pc := 84) d_Mo_ageOwn_84 rfl ?_
          refine zo_iaload (i := i_Mo_ageOwn) (pc := 85) d_Mo_ageOwn_85 (hs.get (t := 6) rfl) (vp_in_nI (by omega) (by decide)) ?_
          refine zo_iconst (i := i_Mo_ageOwn) (pc := 86) (v := 1) d_Mo_ageOwn_86 (by decide) ?_
          refine zo_iadd (i := i_Mo_ageOwn) (pc := 87) d_Mo_ageOwn_87 ?_
          refine zo_icmp_ne (i := i_Mo_ageOwn) (pc := 88) (tgt := 107) d_Mo_ageOwn_88 (by decide) (fun h88 => ?_) (fun h88 => ?_)
          · rw [o15, hm2] at h88
            refine zo_aload_n (i := i_Mo_ageOwn) (pc := 107) d_Mo_ageOwn_107 rfl rfl ?_
            refine zo_get (i := i_Mo_ageOwn) (pc := 108) 10 14 rfl zok_Mo (Nat.le_of_ble_eq_true rfl) (ztb_of k_872 rfl) d_Mo_ageOwn_108 (fun _ _ _ h => h) (hs.get (t := 0) rfl) rfl ?_
            refine zo_iload_n (i := i_Mo_ageOwn) (pc := 111) d_Mo_ageOwn_111 rfl ?_
            refine zo_iaload (i := i_Mo_ageOwn) (pc := 112) d_Mo_ageOwn_112 (hs.get (t := 5) rfl) (vp_in_nI (by omega) (by decide)) ?_
            refine zo_iconst (i := i_Mo_ageOwn) (pc := 113) (v := 1) d_Mo_ageOwn_113 (by decide) ?_
            refine zo_icmp_eq (i := i_Mo_ageOwn) (pc := 114) (tgt := 127) d_Mo_ageOwn_114 (by decide) (fun h114 => ?_) (fun h114 => False.elim (by first | exact absurd h114 ((by rw [o14]; exact h73)) | exact absurd ((by rw [o14]; exact h73)) h114))
            refine zo_aload_n (i := i_Mo_ageOwn) (pc := 127) d_Mo_ageOwn_127 rfl rfl ?_
            refine zo_get (i := i_Mo_ageOwn) (pc := 128) 10 14 rfl zok_Mo (Nat.le_of_ble_eq_true rfl) (ztb_of k_872 rfl) d_Mo_ageOwn_128 (fun _ _ _ h => h) (hs.get (t := 0) rfl) rfl ?_
            refine zo_iload_n (i := i_Mo_ageOwn) (pc := 131) d_Mo_ageOwn_131 rfl ?_
            refine zo_iload_n (i := i_Mo_ageOwn) (pc := 132) d_Mo_ageOwn_132 rfl ?_
            refine zh_iastore (i := i_Mo_ageOwn) (pc := 133) d_Mo_ageOwn_133 hs 5 rfl (vp_in_nI (by omega) (by decide)) fun ws hs => ?_
            refine zo_iinc (i := i_Mo_ageOwn) (pc := 134) (v := nI (done.length + 1)) d_Mo_ageOwn_134 rfl (nI_inc done.length) (Nat.le_of_ble_eq_true rfl) ?_
            refine zo_goto (i := i_Mo_ageOwn) (pc := 137) (tgt := 39) d_Mo_ageOwn_137 (by decide) ?_
            obtain ⟨f1, f2⟩ := own_fit (by omega) hxv (fun hh => h88 hh.2) (.inl h73)
            rw [if_neg (Int32.not_le.mpr h57)] at f2
            rw [f2, mid_next] at hd
            rw [f1, if_neg (by decide)] at hue
            replace hs : zHas ws (moW g B m (mup F 14 (upd (F 14) (nI done.length).toNatClampNeg 2)) ++ R) := hs
            rw [nI_clamp (show done.length < 2 ^ 31 by omega)] at hs
            have hr2 := hr.ownState (v := 2) hx
            rw [hn1 (oaS x 2)]
            refine ih (done ++ [oaS x 2]) u ws i _ ⟨m, _, ?_, hs⟩ hd hue hvr (by omega)
            rw [show (tU (tO q (done ++ x :: r)) u).2.2.1 = done ++ x :: r from rfl, mid_set] at hr2
            exact hr2
          · rw [o15, hm2] at h88
            refine zo_aload_n (i := i_Mo_ageOwn) (pc := 91) d_Mo_ageOwn_91 rfl rfl ?_
            refine zo_iconst (i := i_Mo_ageOwn) (pc := 92) (v := 1) d_Mo_ageOwn_92 (by decide) ?_
            refine zo_ldc (i := i_Mo_ageOwn) (pc := 93) d_Mo_ageOwn_93 (ztb_of k_853 rfl) ?_
            refine zo_aload_n (i := i_Mo_ageOwn) (pc := 95) d_Mo_ageOwn_95 rfl rfl ?_
            refine zo_get (i := i_Mo_ageOwn) (pc := 96) 10 13 rfl zok_Mo (Nat.le_of_ble_eq_true rfl) (ztb_of k_871 rfl) d_Mo_ageOwn_96 (fun _ _ _ h => h) (hs.get (t := 0) rfl) rfl ?_
            refine zo_iload_n (i := i_Mo_ageOwn) (pc := 99) d_Mo_ageOwn_99 rfl ?_
            refine zo_iaload (i := i_Mo_ageOwn) (pc := 100) d_Mo_ageOwn_100 (hs.get (t := 4) rfl) (vp_in_nI (by omega) (by decide)) ?_
            rw [o13]
            refine zc_V3 (i := i_Mo_ageOwn) (pc := 101) 10 rfl m_Mo_out (ztb_of k_854 rfl) (ztb_of k_856 rfl) s_Mo_out d_Mo_ageOwn_101 (Nat.le_of_ble_eq_true rfl) (Nat.le_of_ble_eq_true rfl) (Nat.le_of_ble_eq_true rfl) (Nat.le_of_ble_eq_true rfl) (hs.get (t := 0) rfl) (l_out ⟨_, _, hr, hs⟩ (by show u.1 < _; omega) fun ws hS => ?_)
            obtain ⟨m, F, hr, hs⟩ := hS
            refine zo_goto (i := i_Mo_ageOwn) (pc := 104) (tgt := 134) d_Mo_ageOwn_104 (by decide) ?_
            refine zo_iinc (i := i_Mo_ageOwn) (pc := 134) (v := nI (done.length + 1)) d_Mo_ageOwn_134 rfl (nI_inc done.length) (Nat.le_of_ble_eq_true rfl) ?_
            refine zo_goto (i := i_Mo_ageOwn) (pc := 137) (tgt := 39) d_Mo_ageOwn_137 (by decide) ?_
            obtain ⟨f1, f2⟩ := own_again h73 h88
            rw [f2, mid_next] at hd
            rw [f1, if_pos rfl] at hue
            rw [hn1 x]
            refine ih (done ++ [x]) (ouAdd u 1 65535 x.1) ws i _ ⟨m, F, ?_, hs⟩ hd hue hvr (by show u.1 + 1 + r.length < _; omega)
            rw [← mid_next]
            exact hr
      · rw [o16, hm2] at h57
        refine zo_iconst (i := i_Mo_ageOwn) (pc := 60) (v := 3) d_Mo_ageOwn_60 (by decide) ?_
        refine zo_goto (i := i_Mo_ageOwn) (pc := 61) (tgt := 65) d_Mo_ageOwn_61 (by decide) ?_
        refine zo_istore_n (i := i_Mo_ageOwn) (pc := 65) d_Mo_ageOwn_65 (Nat.le_of_ble_eq_true rfl) ?_
        refine zo_aload_n (i := i_Mo_ageOwn) (pc := 66) d_Mo_ageOwn_66 rfl rfl ?_
        refine zo_get (i := i_Mo_ageOwn) (pc := 67) 10 14 rfl zok_Mo (Nat.le_of_ble_eq_true rfl) (ztb_of k_872 rfl) d_Mo_ageOwn_67 (fun _ _ _ h => h) (hs.get (t := 0) rfl) rfl ?_
        refine zo_iload_n (i := i_Mo_ageOwn) (pc := 70) d_Mo_ageOwn_70 rfl ?_
        refine zo_iaload (i := i_Mo_ageOwn) (pc := 71) d_Mo_ageOwn_71 (hs.get (t := 5) rfl) (vp_in_nI (by omega) (by decide)) ?_
        refine zo_iconst (i := i_Mo_ageOwn) (pc := 72) (v := 1) d_Mo_ageOwn_72 (by decide) ?_
        refine zo_icmp_ne (i := i_Mo_ageOwn) (pc := 73) (tgt := 107) d_Mo_ageOwn_73 (by decide) (fun h73 => ?_) (fun h73 => ?_)
        · rw [o14] at h73
          refine zo_aload_n (i := i_Mo_ageOwn) (pc := 107) d_Mo_ageOwn_107 rfl rfl ?_
          refine zo_get (i := i_Mo_ageOwn) (pc := 108) 10 14 rfl zok_Mo (Nat.le_of_ble_eq_true rfl) (ztb_of k_872 rfl) d_Mo_ageOwn_108 (fun _ _ _ h => h) (hs.get (t := 0) rfl) rfl ?_
          refine zo_iload_n (i := i_Mo_ageOwn) (pc := 111) d_Mo_ageOwn_111 rfl ?_
          refine zo_iaload (i := i_Mo_ageOwn) (pc := 112) d_Mo_ageOwn_112 (hs.get (t := 5) rfl) (vp_in_nI (by omega) (by decide)) ?_
          refine zo_iconst (i := i_Mo_ageOwn) (pc := 113) (v := 1) d_Mo_ageOwn_113 (by decide) ?_
          refine zo_icmp_eq (i := i_Mo_ageOwn) (pc := 114) (tgt := 127) d_Mo_ageOwn_114 (by decide) (fun h114 => False.elim (by first | exact absurd h114 ((by rw [o14]; exact h73)) | exact absurd ((by rw [o14]; exact h73)) h114)) (fun h114 => ?_)
          refine zo_aload_n (i := i_Mo_ageOwn) (pc := 117) d_Mo_ageOwn_117 rfl rfl ?_
          refine zo_get (i := i_Mo_ageOwn) (pc := 118) 10 14 rfl zok_Mo (Nat.le_of_ble_eq_true rfl) (ztb_of k_872 rfl) d_Mo_ageOwn_118 (fun _ _ _ h => h) (hs.get (t := 0) rfl) rfl ?_
          refine zo_iload_n (i := i_Mo_ageOwn) (pc := 121) d_Mo_ageOwn_121 rfl ?_
          refine zo_iaload (i := i_Mo_ageOwn) (pc := 122) d_Mo_ageOwn_122 (hs.get (t := 5) rfl) (vp_in_nI (by omega) (by decide)) ?_
          refine zo_iconst (i := i_Mo_ageOwn) (pc := 123) (v := 2) d_Mo_ageOwn_123 (by decide) ?_
          refine zo_icmp_ne (i := i_Mo_ageOwn) (pc := 124) (tgt := 134) d_Mo_ageOwn_124 (by decide) (fun h124 => ?_) (fun h124 => ?_)
          · refine zo_iinc (i := i_Mo_ageOwn) (pc := 134) (v := nI (done.length + 1)) d_Mo_ageOwn_134 rfl (nI_inc done.length) (Nat.le_of_ble_eq_true rfl) ?_
            refine zo_goto (i := i_Mo_ageOwn) (pc := 137) (tgt := 39) d_Mo_ageOwn_137 (by decide) ?_
            rw [o14] at h124
            obtain ⟨f1, f2⟩ := own_stay (t := nI (c + 1)) h73 h124
            rw [f2, mid_next] at hd
            rw [f1, if_neg (by decide)] at hue
            rw [hn1 x]
            refine ih (done ++ [x]) u ws i _ ⟨m, F, ?_, hs⟩ hd hue hvr (by omega)
            rw [← mid_next]
            exact hr
          · refine zo_aload_n (i := i_Mo_ageOwn) (pc := 127) d_Mo_ageOwn_127 rfl rfl ?_
            refine zo_get (i := i_Mo_ageOwn) (pc := 128) 10 14 rfl zok_Mo (Nat.le_of_ble_eq_true rfl) (ztb_of k_872 rfl) d_Mo_ageOwn_128 (fun _ _ _ h => h) (hs.get (t := 0) rfl) rfl ?_
            refine zo_iload_n (i := i_Mo_ageOwn) (pc := 131) d_Mo_ageOwn_131 rfl ?_
            refine zo_iload_n (i := i_Mo_ageOwn) (pc := 132) d_Mo_ageOwn_132 rfl ?_
            refine zh_iastore (i := i_Mo_ageOwn) (pc := 133) d_Mo_ageOwn_133 hs 5 rfl (vp_in_nI (by omega) (by decide)) fun ws hs => ?_
            refine zo_iinc (i := i_Mo_ageOwn) (pc := 134) (v := nI (done.length + 1)) d_Mo_ageOwn_134 rfl (nI_inc done.length) (Nat.le_of_ble_eq_true rfl) ?_
            refine zo_goto (i := i_Mo_ageOwn) (pc := 137) (tgt := 39) d_Mo_ageOwn_137 (by decide) ?_
            rw [o14] at h124
            obtain ⟨f1, f2⟩ := own_fit (by omega) hxv (fun hh => h73 hh.1) (.inr h124)
            rw [if_pos (Int32.not_lt.mp h57)] at f2
            rw [f2, mid_next] at hd
            rw [f1, if_neg (by decide)] at hue
            replace hs : zHas ws (moW g B m (mup F 14 (upd (F 14) (nI done.length).toNatClampNeg 3)) ++ R) := hs
            rw [nI_clamp (show done.length < 2 ^ 31 by omega)] at hs
            have hr2 := hr.ownState (v := 3) hx
            rw [hn1 (oaS x 3)]
            refine ih (done ++ [oaS x 3]) u ws i _ ⟨m, _, ?_, hs⟩ hd hue hvr (by omega)
            rw [show (tU (tO q (done ++ x :: r)) u).2.2.1 = done ++ x :: r from rfl, mid_set] at hr2
            exact hr2
        · rw [o14] at h73
          refine zo_aload_n (i := i_Mo_ageOwn) (pc := 76) d_Mo_ageOwn_76 rfl rfl ?_
          refine zo_get (i := i_Mo_ageOwn) (pc := 77) 10 2 rfl zok_Mo (Nat.le_of_ble_eq_true rfl) (ztb_of k_860 rfl) d_Mo_ageOwn_77 (fun _ _ _ h => h) (hs.get (t := 0) rfl) rfl ?_
          refine zo_aload_n (i := i_Mo_ageOwn) (pc := 80) d_Mo_ageOwn_80 rfl rfl ?_
          refine zo_get (i := i_Mo_ageOwn) (pc := 81) 10 15 rfl zok_Mo (Nat.le_of_ble_eq_true rfl) (ztb_of k_873 rfl) d_Mo_ageOwn_81 (fun _ _ _ h => h) (hs.get (t := 0) rfl) rfl ?_
          refine zo_iload_n (i := i_Mo_ageOwn) (pc := 84) d_Mo_ageOwn_84 rfl ?_
          refine zo_iaload (i := i_Mo_ageOwn) (pc := 85) d_Mo_ageOwn_85 (hs.get (t := 6) rfl) (vp_in_nI (by omega) (by decide)) ?_
          refine zo_iconst (i := i_Mo_ageOwn) (pc := 86) (v := 1) d_Mo_ageOwn_86 (by decide) ?_
          refine zo_iadd (i := i_Mo_ageOwn) (pc := 87) d_Mo_ageOwn_87 ?_
          refine zo_icmp_ne (i := i_Mo_ageOwn) (pc := 88) (tgt := 107) d_Mo_ageOwn_88 (by decide) (fun h88 => ?_) (fun h88 => ?_)
          · rw [o15, hm2] at h88
            refine zo_aload_n (i := i_Mo_ageOwn) (pc := 107) d_Mo_ageOwn_107 rfl rfl ?_
            refine zo_get (i := i_Mo_ageOwn) (pc := 108) 10 14 rfl zok_Mo (Nat.le_of_ble_eq_true rfl) (ztb_of k_872 rfl) d_Mo_ageOwn_108 (fun _ _ _ h => h) (hs.get (t := 0) rfl) rfl ?_
            refine zo_iload_n (i := i_Mo_ageOwn) (pc := 111) d_Mo_ageOwn_111 rfl ?_
            refine zo_iaload (i := i_Mo_ageOwn) (pc := 112) d_Mo_ageOwn_112 (hs.get (t := 5) rfl) (vp_in_nI (by omega) (by decide)) ?_
            refine zo_iconst (i := i_Mo_ageOwn) (pc := 113) (v := 1) d_Mo_ageOwn_113 (by decide) ?_
            refine zo_icmp_eq (i := i_Mo_ageOwn) (pc := 114) (tgt := 127) d_Mo_ageOwn_114 (by decide) (fun h114 => ?_) (fun h114 => False.elim (by first | exact absurd h114 ((by rw [o14]; exact h73)) | exact absurd ((by rw [o14]; exact h73)) h114))
            refine zo_aload_n (i := i_Mo_ageOwn) (pc := 127) d_Mo_ageOwn_127 rfl rfl ?_
            refine zo_get (i := i_Mo_ageOwn) (pc := 128) 10 14 rfl zok_Mo (Nat.le_of_ble_eq_true rfl) (ztb_of k_872 rfl) d_Mo_ageOwn_128 (fun _ _ _ h => h) (hs.get (t := 0) rfl) rfl ?_
            refine zo_iload_n (i := i_Mo_ageOwn) (pc := 131) d_Mo_ageOwn_131 rfl ?_
            refine zo_iload_n (i := i_Mo_ageOwn) (pc := 132) d_Mo_ageOwn_132 rfl ?_
            refine zh_iastore (i := i_Mo_ageOwn) (pc := 133) d_Mo_ageOwn_133 hs 5 rfl (vp_in_nI (by omega) (by decide)) fun ws hs => ?_
            refine zo_iinc (i := i_Mo_ageOwn) (pc := 134) (v := nI (done.length + 1)) d_Mo_ageOwn_134 rfl (nI_inc done.length) (Nat.le_of_ble_eq_true rfl) ?_
            refine zo_goto (i := i_Mo_ageOwn) (pc := 137) (tgt := 39) d_Mo_ageOwn_137 (by decide) ?_
            obtain ⟨f1, f2⟩ := own_fit (by omega) hxv (fun hh => h88 hh.2) (.inl h73)
            rw [if_pos (Int32.not_lt.mp h57)] at f2
            rw [f2, mid_next] at hd
            rw [f1, if_neg (by decide)] at hue
            replace hs : zHas ws (moW g B m (mup F 14 (upd (F 14) (nI done.length).toNatClampNeg 3)) ++ R) := hs
            rw [nI_clamp (show done.length < 2 ^ 31 by omega)] at hs
            have hr2 := hr.ownState (v := 3) hx
            rw [hn1 (oaS x 3)]
            refine ih (done ++ [oaS x 3]) u ws i _ ⟨m, _, ?_, hs⟩ hd hue hvr (by omega)
            rw [show (tU (tO q (done ++ x :: r)) u).2.2.1 = done ++ x :: r from rfl, mid_set] at hr2
            exact hr2
          · rw [o15, hm2] at h88
            refine zo_aload_n (i := i_Mo_ageOwn) (pc := 91) d_Mo_ageOwn_91 rfl rfl ?_
            refine zo_iconst (i := i_Mo_ageOwn) (pc := 92) (v := 1) d_Mo_ageOwn_92 (by decide) ?_
            refine zo_ldc (i := i_Mo_ageOwn) (pc := 93) d_Mo_ageOwn_93 (ztb_of k_853 rfl) ?_
            refine zo_aload_n (i := i_Mo_ageOwn) (pc := 95) d_Mo_ageOwn_95 rfl rfl ?_
            refine zo_get (i := i_Mo_ageOwn) (pc := 96) 10 13 rfl zok_Mo (Nat.le_of_ble_eq_true rfl) (ztb_of k_871 rfl) d_Mo_ageOwn_96 (fun _ _ _ h => h) (hs.get (t := 0) rfl) rfl ?_
            refine zo_iload_n (i := i_Mo_ageOwn) (pc := 99) d_Mo_ageOwn_99 rfl ?_
            refine zo_iaload (i := i_Mo_ageOwn) (pc := 100) d_Mo_ageOwn_100 (hs.get (t := 4) rfl) (vp_in_nI (by omega) (by decide)) ?_
            rw [o13]
            refine zc_V3 (i := i_Mo_ageOwn) (pc := 101) 10 rfl m_Mo_out (ztb_of k_854 rfl) (ztb_of k_856 rfl) s_Mo_out d_Mo_ageOwn_101 (Nat.le_of_ble_eq_true rfl) (Nat.le_of_ble_eq_true rfl) (Nat.le_of_ble_eq_true rfl) (Nat.le_of_ble_eq_true rfl) (hs.get (t := 0) rfl) (l_out ⟨_, _, hr, hs⟩ (by show u.1 < _; omega) fun ws hS => ?_)
            obtain ⟨m, F, hr, hs⟩ := hS
            refine zo_goto (i := i_Mo_ageOwn) (pc := 104) (tgt := 134) d_Mo_ageOwn_104 (by decide) ?_
            refine zo_iinc (i := i_Mo_ageOwn) (pc := 134) (v := nI (done.length + 1)) d_Mo_ageOwn_134 rfl (nI_inc done.length) (Nat.le_of_ble_eq_true rfl) ?_
            refine zo_goto (i := i_Mo_ageOwn) (pc := 137) (tgt := 39) d_Mo_ageOwn_137 (by decide) ?_
            obtain ⟨f1, f2⟩ := own_again h73 h88
            rw [f2, mid_next] at hd
            rw [f1, if_pos rfl] at hue
            rw [hn1 x]
            refine ih (done ++ [x]) (ouAdd u 1 65535 x.1) ws i _ ⟨m, F, ?_, hs⟩ hd hue hvr (by show u.1 + 1 + r.length < _; omega)
            rw [← mid_next]
            exact hr
  have loop1 : ∀ (rest done : List zOD) (ws : va_W), mS g B (tO q (done ++ rest)) t R ws → done ++ rest.filter (fun x : zOD => decide (nI (c + 1) < x.2.2.2.1)) = q.2.2.1.filter (fun x : zOD => decide (nI (c + 1) < x.2.2.2.1)) → zW x0 g i_Mo_ageOwn 2 [some (.ref (B 0)), some (.int (nI done.length)), none, none] [] ws 0 0 := by
    intro rest
    induction rest with
    | nil =>
      intro done ws hS hd
      obtain ⟨m, F, hr, hs⟩ := hS
      have e12 : m 12 = nI done.length := by rw [hr.2.2.1.1]; show nI (done ++ []).length = _; rw [List.append_nil]
      have hlen : done.length ≤ 5 := by have := hr.2.2.1.2.1; rw [show (tO q (done ++ [])).2.2.1 = done ++ [] from rfl, List.append_nil] at this; exact this
      rw [List.filter_nil] at hd
      rw [hd] at hr
      refine zo_iload_n (i := i_Mo_ageOwn) (pc := 2) d_Mo_ageOwn_2 rfl ?_
      refine zo_aload_n (i := i_Mo_ageOwn) (pc := 3) d_Mo_ageOwn_3 rfl rfl ?_
      refine zo_get (i := i_Mo_ageOwn) (pc := 4) 10 12 rfl zok_Mo (Nat.le_of_ble_eq_true rfl) (ztb_of k_870 rfl) d_Mo_ageOwn_4 (fun _ _ _ h => h) (hs.get (t := 0) rfl) rfl ?_
      refine zo_icmp_ge (i := i_Mo_ageOwn) (pc := 7) (tgt := 37) d_Mo_ageOwn_7 (by decide) (fun h7 => ?_) (fun h7 => False.elim (by first | exact absurd h7 ((by rw [e12]; exact nI_le (Nat.le_refl _) (by omega))) | exact absurd ((by rw [e12]; exact nI_le (Nat.le_refl _) (by omega))) h7))
      refine zo_iconst (i := i_Mo_ageOwn) (pc := 37) (v := 0) d_Mo_ageOwn_37 (by decide) ?_
      refine zo_istore_n (i := i_Mo_ageOwn) (pc := 38) d_Mo_ageOwn_38 (Nat.le_of_ble_eq_true rfl) ?_
      refine loop2 (q.2.2.1.filter (fun x : zOD => decide (nI (c + 1) < x.2.2.2.1))) [] q.2.1 ws _ _ ⟨m, F, hr, hs⟩ rfl rfl (fun x hx => hv x (List.mem_filter.mp hx).1) ?_
      have := List.length_filter_le (fun x : zOD => decide (nI (c + 1) < x.2.2.2.1)) q.2.2.1
      omega
    | cons x r ih =>
      intro done ws hS hd
      obtain ⟨m, F, hr, hs⟩ := hS
      have e12 : m 12 = nI (done.length + (r.length + 1)) := by rw [hr.2.2.1.1]; show nI (done ++ x :: r).length = _; rw [List.length_append, List.length_cons]
      have hlen : done.length + (r.length + 1) ≤ 5 := by have := hr.2.2.1.2.1; rw [show (tO q (done ++ x :: r)).2.2.1 = done ++ x :: r from rfl, List.length_append, List.length_cons] at this; exact this
      have hx : (tO q (done ++ x :: r)).2.2.1[done.length]? = some x := mid done r x
      obtain ⟨o13, o14, o15, o16, o17, ho6⟩ := hr.ow hx
      have hm2 : m 2 = nI (c + 1) := hr.1.2.2.1.trans ht
      have hn1 : ∀ y : zOD, nI (done.length + 1) = nI (done ++ [y]).length := fun y => by rw [List.length_append]; rfl
      have hcl : cv x.2.2.2.1 ≤ nI (c + 1) ↔ ¬ nI (c + 1) < x.2.2.2.1 := cv_le (c_small (by omega))
      refine zo_iload_n (i := i_Mo_ageOwn) (pc := 2) d_Mo_ageOwn_2 rfl ?_
      refine zo_aload_n (i := i_Mo_ageOwn) (pc := 3) d_Mo_ageOwn_3 rfl rfl ?_
      refine zo_get (i := i_Mo_ageOwn) (pc := 4) 10 12 rfl zok_Mo (Nat.le_of_ble_eq_true rfl) (ztb_of k_870 rfl) d_Mo_ageOwn_4 (fun _ _ _ h => h) (hs.get (t := 0) rfl) rfl ?_
      refine zo_icmp_ge (i := i_Mo_ageOwn) (pc := 7) (tgt := 37) d_Mo_ageOwn_7 (by decide) (fun h7 => False.elim (by first | exact absurd h7 ((by rw [e12]; exact nI_ge (by omega) (by omega))) | exact absurd ((by rw [e12]; exact nI_ge (by omega) (by omega))) h7)) (fun h7 => ?_)
      refine zo_aload_n (i := i_Mo_ageOwn) (pc := 10) d_Mo_ageOwn_10 rfl rfl ?_
      refine zo_get (i := i_Mo_ageOwn) (pc := 11) 10 17 rfl zok_Mo (Nat.le_of_ble_eq_true rfl) (ztb_of k_875 rfl) d_Mo_ageOwn_11 (fun _ _ _ h => h) (hs.get (t := 0) rfl) rfl ?_
      refine zo_iload_n (i := i_Mo_ageOwn) (pc := 14) d_Mo_ageOwn_14 rfl ?_
      refine zo_iaload (i := i_Mo_ageOwn) (pc := 15) d_Mo_ageOwn_15 (hs.get (t := 8) rfl) (vp_in_nI (by omega) (by decide)) ?_
      refine zo_aload_n (i := i_Mo_ageOwn) (pc := 16) d_Mo_ageOwn_16 rfl rfl ?_
      refine zo_get (i := i_Mo_ageOwn) (pc := 17) 10 2 rfl zok_Mo (Nat.le_of_ble_eq_true rfl) (ztb_of k_860 rfl) d_Mo_ageOwn_17 (fun _ _ _ h => h) (hs.get (t := 0) rfl) rfl ?_
      refine zo_icmp_gt (i := i_Mo_ageOwn) (pc := 20) (tgt := 31) d_Mo_ageOwn_20 (by decide) (fun h20 => ?_) (fun h20 => ?_)
      · refine zo_iinc (i := i_Mo_ageOwn) (pc := 31) (v := nI (done.length + 1)) d_Mo_ageOwn_31 rfl (nI_inc done.length) (Nat.le_of_ble_eq_true rfl) ?_
        refine zo_goto (i := i_Mo_ageOwn) (pc := 34) (tgt := 2) d_Mo_ageOwn_34 (by decide) ?_
        rw [o17, hm2] at h20
        have hp : nI (c + 1) < x.2.2.2.1 := Decidable.not_not.mp (fun hh => absurd (hcl.mpr hh) (Int32.not_le.mpr h20))
        rw [List.filter_cons_of_pos (by exact decide_eq_true hp), mid_next] at hd
        rw [hn1 x]
        refine ih (done ++ [x]) ws ⟨m, F, ?_, hs⟩ hd
        rw [← mid_next]
        exact hr
      · rw [o17, hm2] at h20
        refine zo_aload_n (i := i_Mo_ageOwn) (pc := 23) d_Mo_ageOwn_23 rfl rfl ?_
        refine zo_iload_n (i := i_Mo_ageOwn) (pc := 24) d_Mo_ageOwn_24 rfl ?_
        refine zc_V1 (i := i_Mo_ageOwn) (pc := 25) 10 rfl m_Mo_dropOwn (ztb_of k_968 rfl) (ztb_of k_970 rfl) s_Mo_dropOwn d_Mo_ageOwn_25 (Nat.le_of_ble_eq_true rfl) (Nat.le_of_ble_eq_true rfl) (Nat.le_of_ble_eq_true rfl) (Nat.le_of_ble_eq_true rfl) (hs.get (t := 0) rfl) (l_dropOwn ⟨_, _, hr, hs⟩ (by show done.length < (done ++ x :: r).length; rw [List.length_append, List.length_cons]; omega) fun ws hS => ?_)
        refine zo_goto (i := i_Mo_ageOwn) (pc := 28) (tgt := 2) d_Mo_ageOwn_28 (by decide) ?_
        rw [List.filter_cons_of_neg (by simp; exact Int32.not_lt.mp (hcl.mp (Int32.not_lt.mp h20)))] at hd
        refine ih done ws ?_ hd
        rw [show (tO q (done ++ x :: r)).2.2.1 = done ++ x :: r from rfl, mid_erase] at hS
        exact hS
  refine zo_iconst (i := i_Mo_ageOwn) (pc := 0) (v := 0) d_Mo_ageOwn_0 (by decide) ?_
  refine zo_istore_n (i := i_Mo_ageOwn) (pc := 1) d_Mo_ageOwn_1 (Nat.le_of_ble_eq_true rfl) ?_
  exact loop1 q.2.2.1 [] ws ⟨m, F, hr, hs⟩ rfl
