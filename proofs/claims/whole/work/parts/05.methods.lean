/-! Classes and methods of ours, as the tables have them (by a program, gen05.py). -/
theorem zlay_Al : ∀ k : Nat, k < 3 → u_lay R_Al T_Al k ∈ ztb := fun k hk => match k, hk with
    | 0, _ => ztb_of k_90 rfl
    | 1, _ => ztb_of k_92 rfl
    | 2, _ => ztb_of k_94 rfl
    | k + 3, h => absurd h (by omega)
theorem zok_Al : zclok (R_Al, T_Al, 3) := ⟨fun w hw => by obtain ⟨k, hk, rfl⟩ := List.mem_map.mp hw; exact zlay_Al k (List.mem_range.mp hk), by decide +kernel, n_Al⟩
theorem zlay_Hd : ∀ k : Nat, k < 3 → u_lay R_Hd T_Hd k ∈ ztb := fun k hk => match k, hk with
    | 0, _ => ztb_of k_140 rfl
    | 1, _ => ztb_of k_142 rfl
    | 2, _ => ztb_of k_144 rfl
    | k + 3, h => absurd h (by omega)
theorem zok_Hd : zclok (R_Hd, T_Hd, 3) := ⟨fun w hw => by obtain ⟨k, hk, rfl⟩ := List.mem_map.mp hw; exact zlay_Hd k (List.mem_range.mp hk), by decide +kernel, n_Hd⟩
theorem zlay_Ne : ∀ k : Nat, k < 6 → u_lay R_Ne T_Ne k ∈ ztb := fun k hk => match k, hk with
    | 0, _ => ztb_of k_558 rfl
    | 1, _ => ztb_of k_560 rfl
    | 2, _ => ztb_of k_562 rfl
    | 3, _ => ztb_of k_564 rfl
    | 4, _ => ztb_of k_566 rfl
    | 5, _ => ztb_of k_568 rfl
    | k + 6, h => absurd h (by omega)
theorem zok_Ne : zclok (R_Ne, T_Ne, 6) := ⟨fun w hw => by obtain ⟨k, hk, rfl⟩ := List.mem_map.mp hw; exact zlay_Ne k (List.mem_range.mp hk), by decide +kernel, n_Ne⟩
theorem zlay_Nr : ∀ k : Nat, k < 1 → u_lay R_Nr T_Nr k ∈ ztb := fun k hk => match k, hk with
    | 0, _ => ztb_of k_110 rfl
    | k + 1, h => absurd h (by omega)
theorem zok_Nr : zclok (R_Nr, T_Nr, 1) := ⟨fun w hw => by obtain ⟨k, hk, rfl⟩ := List.mem_map.mp hw; exact zlay_Nr k (List.mem_range.mp hk), by decide +kernel, n_Nr⟩
theorem zlay_Ou : ∀ k : Nat, k < 6 → u_lay R_Ou T_Ou k ∈ ztb := fun k hk => match k, hk with
    | 0, _ => ztb_of k_51 rfl
    | 1, _ => ztb_of k_53 rfl
    | 2, _ => ztb_of k_55 rfl
    | 3, _ => ztb_of k_57 rfl
    | 4, _ => ztb_of k_59 rfl
    | 5, _ => ztb_of k_61 rfl
    | k + 6, h => absurd h (by omega)
theorem zok_Ou : zclok (R_Ou, T_Ou, 6) := ⟨fun w hw => by obtain ⟨k, hk, rfl⟩ := List.mem_map.mp hw; exact zlay_Ou k (List.mem_range.mp hk), by decide +kernel, n_Ou⟩
theorem zlay_Oa : ∀ k : Nat, k < 5 → u_lay R_Oa T_Oa k ∈ ztb := fun k hk => match k, hk with
    | 0, _ => ztb_of k_180 rfl
    | 1, _ => ztb_of k_182 rfl
    | 2, _ => ztb_of k_184 rfl
    | 3, _ => ztb_of k_186 rfl
    | 4, _ => ztb_of k_188 rfl
    | k + 5, h => absurd h (by omega)
theorem zok_Oa : zclok (R_Oa, T_Oa, 5) := ⟨fun w hw => by obtain ⟨k, hk, rfl⟩ := List.mem_map.mp hw; exact zlay_Oa k (List.mem_range.mp hk), by decide +kernel, n_Oa⟩
theorem zlay_Or : ∀ k : Nat, k < 1 → u_lay R_Or T_Or k ∈ ztb := fun k hk => match k, hk with
    | 0, _ => ztb_of k_98 rfl
    | k + 1, h => absurd h (by omega)
theorem zok_Or : zclok (R_Or, T_Or, 1) := ⟨fun w hw => by obtain ⟨k, hk, rfl⟩ := List.mem_map.mp hw; exact zlay_Or k (List.mem_range.mp hk), by decide +kernel, n_Or⟩
theorem zlay_Ti : ∀ k : Nat, k < 3 → u_lay R_Ti T_Ti k ∈ ztb := fun k hk => match k, hk with
    | 0, _ => ztb_of k_614 rfl
    | 1, _ => ztb_of k_616 rfl
    | 2, _ => ztb_of k_618 rfl
    | k + 3, h => absurd h (by omega)
theorem zok_Ti : zclok (R_Ti, T_Ti, 3) := ⟨fun w hw => by obtain ⟨k, hk, rfl⟩ := List.mem_map.mp hw; exact zlay_Ti k (List.mem_range.mp hk), by decide +kernel, n_Ti⟩
theorem zlay_Tr : ∀ k : Nat, k < 2 → u_lay R_Tr T_Tr k ∈ ztb := fun k hk => match k, hk with
    | 0, _ => ztb_of k_123 rfl
    | 1, _ => ztb_of k_125 rfl
    | k + 2, h => absurd h (by omega)
theorem zok_Tr : zclok (R_Tr, T_Tr, 2) := ⟨fun w hw => by obtain ⟨k, hk, rfl⟩ := List.mem_map.mp hw; exact zlay_Tr k (List.mem_range.mp hk), by decide +kernel, n_Tr⟩
theorem zlay_Ho : ∀ k : Nat, k < 14 → u_lay R_Ho T_Ho k ∈ ztb := fun k hk => match k, hk with
    | 0, _ => ztb_of k_276 rfl
    | 1, _ => ztb_of k_278 rfl
    | 2, _ => ztb_of k_280 rfl
    | 3, _ => ztb_of k_282 rfl
    | 4, _ => ztb_of k_284 rfl
    | 5, _ => ztb_of k_286 rfl
    | 6, _ => ztb_of k_288 rfl
    | 7, _ => ztb_of k_290 rfl
    | 8, _ => ztb_of k_292 rfl
    | 9, _ => ztb_of k_294 rfl
    | 10, _ => ztb_of k_296 rfl
    | 11, _ => ztb_of k_298 rfl
    | 12, _ => ztb_of k_300 rfl
    | 13, _ => ztb_of k_302 rfl
    | k + 14, h => absurd h (by omega)
theorem zok_Ho : zclok (R_Ho, T_Ho, 14) := ⟨fun w hw => by obtain ⟨k, hk, rfl⟩ := List.mem_map.mp hw; exact zlay_Ho k (List.mem_range.mp hk), by decide +kernel, n_Ho⟩
theorem zlay_Mo : ∀ k : Nat, k < 32 → u_lay R_Mo T_Mo k ∈ ztb := fun k hk => match k, hk with
    | 0, _ => ztb_of k_890 rfl
    | 1, _ => ztb_of k_892 rfl
    | 2, _ => ztb_of k_894 rfl
    | 3, _ => ztb_of k_896 rfl
    | 4, _ => ztb_of k_898 rfl
    | 5, _ => ztb_of k_900 rfl
    | 6, _ => ztb_of k_902 rfl
    | 7, _ => ztb_of k_904 rfl
    | 8, _ => ztb_of k_906 rfl
    | 9, _ => ztb_of k_908 rfl
    | 10, _ => ztb_of k_910 rfl
    | 11, _ => ztb_of k_912 rfl
    | 12, _ => ztb_of k_914 rfl
    | 13, _ => ztb_of k_916 rfl
    | 14, _ => ztb_of k_918 rfl
    | 15, _ => ztb_of k_920 rfl
    | 16, _ => ztb_of k_922 rfl
    | 17, _ => ztb_of k_924 rfl
    | 18, _ => ztb_of k_926 rfl
    | 19, _ => ztb_of k_928 rfl
    | 20, _ => ztb_of k_930 rfl
    | 21, _ => ztb_of k_932 rfl
    | 22, _ => ztb_of k_934 rfl
    | 23, _ => ztb_of k_936 rfl
    | 24, _ => ztb_of k_938 rfl
    | 25, _ => ztb_of k_940 rfl
    | 26, _ => ztb_of k_942 rfl
    | 27, _ => ztb_of k_944 rfl
    | 28, _ => ztb_of k_946 rfl
    | 29, _ => ztb_of k_948 rfl
    | 30, _ => ztb_of k_950 rfl
    | 31, _ => ztb_of k_952 rfl
    | k + 32, h => absurd h (by omega)
theorem zok_Mo : zclok (R_Mo, T_Mo, 32) := ⟨fun w hw => by obtain ⟨k, hk, rfl⟩ := List.mem_map.mp hw; exact zlay_Mo k (List.mem_range.mp hk), by decide +kernel, n_Mo⟩
theorem s_Ho_form : Cond.selects "LinkHost" y_Ho_form y_Ho_form ∈ ztb := ztb_sel (q := (y_Ho_form, 14)) (List.mem_append_left _ (List.mem_of_getElem? (i := 0) rfl))
theorem s_Or_add : Cond.selects "LinkHost$OwnRow" y_Or_add y_Or_add ∈ ztb := ztb_sel (q := (y_Or_add, 1)) (List.mem_append_left _ (List.mem_of_getElem? (i := 1) rfl))
theorem s_Al_add_2 : Cond.selects "java/util/ArrayList" y_Al_add_2 y_Al_add_2 ∈ ztb := ztb_sel (q := (y_Al_add_2, 3)) (List.mem_append_left _ (List.mem_of_getElem? (i := 2) rfl))
theorem s_Al_grow : Cond.selects "java/util/ArrayList" y_Al_grow y_Al_grow ∈ ztb := ztb_sel (q := (y_Al_grow, 3)) (List.mem_append_left _ (List.mem_of_getElem? (i := 3) rfl))
theorem s_Al_grow_2 : Cond.selects "java/util/ArrayList" y_Al_grow_2 y_Al_grow_2 ∈ ztb := ztb_sel (q := (y_Al_grow_2, 3)) (List.mem_append_left _ (List.mem_of_getElem? (i := 4) rfl))
theorem s_Ho_probe : Cond.selects "LinkHost" y_Ho_probe y_Ho_probe ∈ ztb := ztb_sel (q := (y_Ho_probe, 14)) (List.mem_append_left _ (List.mem_of_getElem? (i := 5) rfl))
theorem s_Ou_add : Cond.selects "LinkHost$Out" y_Ou_add y_Ou_add ∈ ztb := ztb_sel (q := (y_Ou_add, 6)) (List.mem_append_left _ (List.mem_of_getElem? (i := 6) rfl))
theorem s_Nr_find : Cond.selects "LinkHost$NeighbourRow" y_Nr_find y_Nr_find ∈ ztb := ztb_sel (q := (y_Nr_find, 1)) (List.mem_append_left _ (List.mem_of_getElem? (i := 7) rfl))
theorem s_Ne_hasWaiting : Cond.selects "LinkHost$Neighbour" y_Ne_hasWaiting y_Ne_hasWaiting ∈ ztb := ztb_sel (q := (y_Ne_hasWaiting, 6)) (List.mem_append_left _ (List.mem_of_getElem? (i := 8) rfl))
theorem s_Tr_find : Cond.selects "LinkHost$TimedRow" y_Tr_find y_Tr_find ∈ ztb := ztb_sel (q := (y_Tr_find, 2)) (List.mem_append_left _ (List.mem_of_getElem? (i := 9) rfl))
theorem s_Ho_doWhatIsDue : Cond.selects "LinkHost" y_Ho_doWhatIsDue y_Ho_doWhatIsDue ∈ ztb := ztb_sel (q := (y_Ho_doWhatIsDue, 14)) (List.mem_append_left _ (List.mem_of_getElem? (i := 11) rfl))
theorem s_Or_expire : Cond.selects "LinkHost$OwnRow" y_Or_expire y_Or_expire ∈ ztb := ztb_sel (q := (y_Or_expire, 1)) (List.mem_append_left _ (List.mem_of_getElem? (i := 12) rfl))
theorem s_Al_fastRemove : Cond.selects "java/util/ArrayList" y_Al_fastRemove y_Al_fastRemove ∈ ztb := ztb_sel (q := (y_Al_fastRemove, 3)) (List.mem_append_left _ (List.mem_of_getElem? (i := 13) rfl))
theorem s_Or_length : Cond.selects "LinkHost$OwnRow" y_Or_length y_Or_length ∈ ztb := ztb_sel (q := (y_Or_length, 1)) (List.mem_append_left _ (List.mem_of_getElem? (i := 14) rfl))
theorem s_Or_at : Cond.selects "LinkHost$OwnRow" y_Or_at y_Or_at ∈ ztb := ztb_sel (q := (y_Or_at, 1)) (List.mem_append_left _ (List.mem_of_getElem? (i := 15) rfl))
theorem s_Ho_ageOwn : Cond.selects "LinkHost" y_Ho_ageOwn y_Ho_ageOwn ∈ ztb := ztb_sel (q := (y_Ho_ageOwn, 14)) (List.mem_append_right _ (List.mem_append_left _ (List.mem_of_getElem? (i := 0) rfl)))
theorem s_Nr_length : Cond.selects "LinkHost$NeighbourRow" y_Nr_length y_Nr_length ∈ ztb := ztb_sel (q := (y_Nr_length, 1)) (List.mem_append_right _ (List.mem_append_left _ (List.mem_of_getElem? (i := 1) rfl)))
theorem s_Nr_at : Cond.selects "LinkHost$NeighbourRow" y_Nr_at y_Nr_at ∈ ztb := ztb_sel (q := (y_Nr_at, 1)) (List.mem_append_right _ (List.mem_append_left _ (List.mem_of_getElem? (i := 2) rfl)))
theorem s_Ho_ageNeighbour : Cond.selects "LinkHost" y_Ho_ageNeighbour y_Ho_ageNeighbour ∈ ztb := ztb_sel (q := (y_Ho_ageNeighbour, 14)) (List.mem_append_right _ (List.mem_append_left _ (List.mem_of_getElem? (i := 3) rfl)))
theorem s_Ne_isAskedFor : Cond.selects "LinkHost$Neighbour" y_Ne_isAskedFor y_Ne_isAskedFor ∈ ztb := ztb_sel (q := (y_Ne_isAskedFor, 6)) (List.mem_append_right _ (List.mem_append_left _ (List.mem_of_getElem? (i := 4) rfl)))
theorem s_Ho_ask : Cond.selects "LinkHost" y_Ho_ask y_Ho_ask ∈ ztb := ztb_sel (q := (y_Ho_ask, 14)) (List.mem_append_right _ (List.mem_append_left _ (List.mem_of_getElem? (i := 5) rfl)))
theorem s_Ne_enter : Cond.selects "LinkHost$Neighbour" y_Ne_enter y_Ne_enter ∈ ztb := ztb_sel (q := (y_Ne_enter, 6)) (List.mem_append_right _ (List.mem_append_left _ (List.mem_of_getElem? (i := 6) rfl)))
theorem s_Nr_giveUp : Cond.selects "LinkHost$NeighbourRow" y_Nr_giveUp y_Nr_giveUp ∈ ztb := ztb_sel (q := (y_Nr_giveUp, 1)) (List.mem_append_right _ (List.mem_append_left _ (List.mem_of_getElem? (i := 7) rfl)))
theorem s_Tr_expire : Cond.selects "LinkHost$TimedRow" y_Tr_expire y_Tr_expire ∈ ztb := ztb_sel (q := (y_Tr_expire, 2)) (List.mem_append_right _ (List.mem_append_left _ (List.mem_of_getElem? (i := 8) rfl)))
theorem s_Ho_requireUp : Cond.selects "LinkHost" y_Ho_requireUp y_Ho_requireUp ∈ ztb := ztb_sel (q := (y_Ho_requireUp, 14)) (List.mem_append_right _ (List.mem_append_left _ (List.mem_of_getElem? (i := 9) rfl)))
theorem s_Ho_learnNumber : Cond.selects "LinkHost" y_Ho_learnNumber y_Ho_learnNumber ∈ ztb := ztb_sel (q := (y_Ho_learnNumber, 14)) (List.mem_append_right _ (List.mem_append_left _ (List.mem_of_getElem? (i := 10) rfl)))
theorem s_Nr_add : Cond.selects "LinkHost$NeighbourRow" y_Nr_add y_Nr_add ∈ ztb := ztb_sel (q := (y_Nr_add, 1)) (List.mem_append_right _ (List.mem_append_left _ (List.mem_of_getElem? (i := 11) rfl)))
theorem s_Ho_sendWaiting : Cond.selects "LinkHost" y_Ho_sendWaiting y_Ho_sendWaiting ∈ ztb := ztb_sel (q := (y_Ho_sendWaiting, 14)) (List.mem_append_right _ (List.mem_append_left _ (List.mem_of_getElem? (i := 12) rfl)))
theorem s_Ho_deliver : Cond.selects "LinkHost" y_Ho_deliver y_Ho_deliver ∈ ztb := ztb_sel (q := (y_Ho_deliver, 14)) (List.mem_append_right _ (List.mem_append_left _ (List.mem_of_getElem? (i := 13) rfl)))
theorem s_Tr_drop : Cond.selects "LinkHost$TimedRow" y_Tr_drop y_Tr_drop ∈ ztb := ztb_sel (q := (y_Tr_drop, 2)) (List.mem_append_right _ (List.mem_append_left _ (List.mem_of_getElem? (i := 14) rfl)))
theorem s_Ho_endOf : Cond.selects "LinkHost" y_Ho_endOf y_Ho_endOf ∈ ztb := ztb_sel (q := (y_Ho_endOf, 14)) (List.mem_append_right _ (List.mem_append_left _ (List.mem_of_getElem? (i := 15) rfl)))
theorem s_Tr_keep : Cond.selects "LinkHost$TimedRow" y_Tr_keep y_Tr_keep ∈ ztb := ztb_sel (q := (y_Tr_keep, 2)) (List.mem_append_right _ (List.mem_append_right _ (List.mem_append_left _ (List.mem_of_getElem? (i := 0) rfl))))
theorem s_Ho_hearOnLink : Cond.selects "LinkHost" y_Ho_hearOnLink y_Ho_hearOnLink ∈ ztb := ztb_sel (q := (y_Ho_hearOnLink, 14)) (List.mem_append_right _ (List.mem_append_right _ (List.mem_append_left _ (List.mem_of_getElem? (i := 1) rfl))))
theorem s_Ho_hearForm : Cond.selects "LinkHost" y_Ho_hearForm y_Ho_hearForm ∈ ztb := ztb_sel (q := (y_Ho_hearForm, 14)) (List.mem_append_right _ (List.mem_append_right _ (List.mem_append_left _ (List.mem_of_getElem? (i := 2) rfl))))
theorem s_Or_find : Cond.selects "LinkHost$OwnRow" y_Or_find y_Or_find ∈ ztb := ztb_sel (q := (y_Or_find, 1)) (List.mem_append_right _ (List.mem_append_right _ (List.mem_append_left _ (List.mem_of_getElem? (i := 3) rfl))))
theorem s_Ho_renew : Cond.selects "LinkHost" y_Ho_renew y_Ho_renew ∈ ztb := ztb_sel (q := (y_Ho_renew, 14)) (List.mem_append_right _ (List.mem_append_right _ (List.mem_append_left _ (List.mem_of_getElem? (i := 4) rfl))))
theorem s_Oa_isUsable : Cond.selects "LinkHost$OwnAddress" y_Oa_isUsable y_Oa_isUsable ∈ ztb := ztb_sel (q := (y_Oa_isUsable, 5)) (List.mem_append_right _ (List.mem_append_right _ (List.mem_append_left _ (List.mem_of_getElem? (i := 5) rfl))))
theorem s_Ho_markDuplicate : Cond.selects "LinkHost" y_Ho_markDuplicate y_Ho_markDuplicate ∈ ztb := ztb_sel (q := (y_Ho_markDuplicate, 14)) (List.mem_append_right _ (List.mem_append_right _ (List.mem_append_left _ (List.mem_of_getElem? (i := 6) rfl))))
theorem s_Ho_hearNumber : Cond.selects "LinkHost" y_Ho_hearNumber y_Ho_hearNumber ∈ ztb := ztb_sel (q := (y_Ho_hearNumber, 14)) (List.mem_append_right _ (List.mem_append_right _ (List.mem_append_left _ (List.mem_of_getElem? (i := 7) rfl))))
theorem s_Ho_hearWhetherRouter : Cond.selects "LinkHost" y_Ho_hearWhetherRouter y_Ho_hearWhetherRouter ∈ ztb := ztb_sel (q := (y_Ho_hearWhetherRouter, 14)) (List.mem_append_right _ (List.mem_append_right _ (List.mem_append_left _ (List.mem_of_getElem? (i := 8) rfl))))
theorem s_Or_hasUsable : Cond.selects "LinkHost$OwnRow" y_Or_hasUsable y_Or_hasUsable ∈ ztb := ztb_sel (q := (y_Or_hasUsable, 1)) (List.mem_append_right _ (List.mem_append_right _ (List.mem_append_left _ (List.mem_of_getElem? (i := 9) rfl))))
theorem s_Ho_isOnLink : Cond.selects "LinkHost" y_Ho_isOnLink y_Ho_isOnLink ∈ ztb := ztb_sel (q := (y_Ho_isOnLink, 14)) (List.mem_append_right _ (List.mem_append_right _ (List.mem_append_left _ (List.mem_of_getElem? (i := 10) rfl))))
theorem s_Ho_pickRouter : Cond.selects "LinkHost" y_Ho_pickRouter y_Ho_pickRouter ∈ ztb := ztb_sel (q := (y_Ho_pickRouter, 14)) (List.mem_append_right _ (List.mem_append_right _ (List.mem_append_left _ (List.mem_of_getElem? (i := 11) rfl))))
theorem s_Tr_length : Cond.selects "LinkHost$TimedRow" y_Tr_length y_Tr_length ∈ ztb := ztb_sel (q := (y_Tr_length, 2)) (List.mem_append_right _ (List.mem_append_right _ (List.mem_append_left _ (List.mem_of_getElem? (i := 12) rfl))))
theorem s_Tr_at : Cond.selects "LinkHost$TimedRow" y_Tr_at y_Tr_at ∈ ztb := ztb_sel (q := (y_Tr_at, 2)) (List.mem_append_right _ (List.mem_append_right _ (List.mem_append_left _ (List.mem_of_getElem? (i := 13) rfl))))
theorem s_Ho_sendThrough : Cond.selects "LinkHost" y_Ho_sendThrough y_Ho_sendThrough ∈ ztb := ztb_sel (q := (y_Ho_sendThrough, 14)) (List.mem_append_right _ (List.mem_append_right _ (List.mem_append_left _ (List.mem_of_getElem? (i := 14) rfl))))
theorem s_Hd_isFull : Cond.selects "LinkHost$Headers" y_Hd_isFull y_Hd_isFull ∈ ztb := ztb_sel (q := (y_Hd_isFull, 3)) (List.mem_append_right _ (List.mem_append_right _ (List.mem_append_left _ (List.mem_of_getElem? (i := 15) rfl))))
theorem s_Hd_add : Cond.selects "LinkHost$Headers" y_Hd_add y_Hd_add ∈ ztb := ztb_sel (q := (y_Hd_add, 3)) (List.mem_append_right _ (List.mem_append_right _ (List.mem_append_right _ (List.mem_append_left _ (List.mem_of_getElem? (i := 0) rfl)))))
theorem s_Ho_isForHost : Cond.selects "LinkHost" y_Ho_isForHost y_Ho_isForHost ∈ ztb := ztb_sel (q := (y_Ho_isForHost, 14)) (List.mem_append_right _ (List.mem_append_right _ (List.mem_append_right _ (List.mem_append_left _ (List.mem_of_getElem? (i := 1) rfl)))))
theorem s_Ho_lookAtHeaders : Cond.selects "LinkHost" y_Ho_lookAtHeaders y_Ho_lookAtHeaders ∈ ztb := ztb_sel (q := (y_Ho_lookAtHeaders, 14)) (List.mem_append_right _ (List.mem_append_right _ (List.mem_append_right _ (List.mem_append_left _ (List.mem_of_getElem? (i := 2) rfl)))))
theorem s_Ho_goesOn : Cond.selects "LinkHost" y_Ho_goesOn y_Ho_goesOn ∈ ztb := ztb_sel (q := (y_Ho_goesOn, 14)) (List.mem_append_right _ (List.mem_append_right _ (List.mem_append_right _ (List.mem_append_left _ (List.mem_of_getElem? (i := 3) rfl)))))
theorem s_Ho_answerFault : Cond.selects "LinkHost" y_Ho_answerFault y_Ho_answerFault ∈ ztb := ztb_sel (q := (y_Ho_answerFault, 14)) (List.mem_append_right _ (List.mem_append_right _ (List.mem_append_right _ (List.mem_append_left _ (List.mem_of_getElem? (i := 4) rfl)))))
theorem s_Hd_clear : Cond.selects "LinkHost$Headers" y_Hd_clear y_Hd_clear ∈ ztb := ztb_sel (q := (y_Hd_clear, 3)) (List.mem_append_right _ (List.mem_append_right _ (List.mem_append_right _ (List.mem_append_left _ (List.mem_of_getElem? (i := 5) rfl)))))
theorem s_Ou_slot : Cond.selects "LinkHost$Out" y_Ou_slot y_Ou_slot ∈ ztb := ztb_sel (q := (y_Ou_slot, 6)) (List.mem_append_right _ (List.mem_append_right _ (List.mem_append_right _ (List.mem_append_left _ (List.mem_of_getElem? (i := 6) rfl)))))
theorem s_Mo_form : Cond.selects "LinkHostModel" y_Mo_form y_Mo_form ∈ ztb := ztb_sel (q := (y_Mo_form, 32)) (List.mem_append_right _ (List.mem_append_right _ (List.mem_append_right _ (List.mem_append_left _ (List.mem_of_getElem? (i := 7) rfl)))))
theorem s_Mo_end : Cond.selects "LinkHostModel" y_Mo_end y_Mo_end ∈ ztb := ztb_sel (q := (y_Mo_end, 32)) (List.mem_append_right _ (List.mem_append_right _ (List.mem_append_right _ (List.mem_append_left _ (List.mem_of_getElem? (i := 8) rfl)))))
theorem s_Mo_out : Cond.selects "LinkHostModel" y_Mo_out y_Mo_out ∈ ztb := ztb_sel (q := (y_Mo_out, 32)) (List.mem_append_right _ (List.mem_append_right _ (List.mem_append_right _ (List.mem_append_left _ (List.mem_of_getElem? (i := 9) rfl)))))
theorem s_Mo_ageOwn : Cond.selects "LinkHostModel" y_Mo_ageOwn y_Mo_ageOwn ∈ ztb := ztb_sel (q := (y_Mo_ageOwn, 32)) (List.mem_append_right _ (List.mem_append_right _ (List.mem_append_right _ (List.mem_append_left _ (List.mem_of_getElem? (i := 10) rfl)))))
theorem s_Mo_dropOwn : Cond.selects "LinkHostModel" y_Mo_dropOwn y_Mo_dropOwn ∈ ztb := ztb_sel (q := (y_Mo_dropOwn, 32)) (List.mem_append_right _ (List.mem_append_right _ (List.mem_append_right _ (List.mem_append_left _ (List.mem_of_getElem? (i := 11) rfl)))))
theorem s_Mo_ageNeighbours : Cond.selects "LinkHostModel" y_Mo_ageNeighbours y_Mo_ageNeighbours ∈ ztb := ztb_sel (q := (y_Mo_ageNeighbours, 32)) (List.mem_append_right _ (List.mem_append_right _ (List.mem_append_right _ (List.mem_append_left _ (List.mem_of_getElem? (i := 12) rfl)))))
theorem s_Mo_ageNeighbour : Cond.selects "LinkHostModel" y_Mo_ageNeighbour y_Mo_ageNeighbour ∈ ztb := ztb_sel (q := (y_Mo_ageNeighbour, 32)) (List.mem_append_right _ (List.mem_append_right _ (List.mem_append_right _ (List.mem_append_left _ (List.mem_of_getElem? (i := 13) rfl)))))
theorem s_Mo_ask : Cond.selects "LinkHostModel" y_Mo_ask y_Mo_ask ∈ ztb := ztb_sel (q := (y_Mo_ask, 32)) (List.mem_append_right _ (List.mem_append_right _ (List.mem_append_right _ (List.mem_append_left _ (List.mem_of_getElem? (i := 14) rfl)))))
theorem s_Mo_turn : Cond.selects "LinkHostModel" y_Mo_turn y_Mo_turn ∈ ztb := ztb_sel (q := (y_Mo_turn, 32)) (List.mem_append_right _ (List.mem_append_right _ (List.mem_append_right _ (List.mem_append_left _ (List.mem_of_getElem? (i := 15) rfl)))))
theorem s_Mo_dropNeighbour : Cond.selects "LinkHostModel" y_Mo_dropNeighbour y_Mo_dropNeighbour ∈ ztb := ztb_sel (q := (y_Mo_dropNeighbour, 32)) (List.mem_append_right _ (List.mem_append_right _ (List.mem_append_right _ (List.mem_append_right _ (List.mem_append_left _ (List.mem_of_getElem? (i := 0) rfl))))))
theorem s_Mo_ageEntries : Cond.selects "LinkHostModel" y_Mo_ageEntries y_Mo_ageEntries ∈ ztb := ztb_sel (q := (y_Mo_ageEntries, 32)) (List.mem_append_right _ (List.mem_append_right _ (List.mem_append_right _ (List.mem_append_right _ (List.mem_append_left _ (List.mem_of_getElem? (i := 1) rfl))))))
theorem s_Mo_dropEntry : Cond.selects "LinkHostModel" y_Mo_dropEntry y_Mo_dropEntry ∈ ztb := ztb_sel (q := (y_Mo_dropEntry, 32)) (List.mem_append_right _ (List.mem_append_right _ (List.mem_append_right _ (List.mem_append_right _ (List.mem_append_left _ (List.mem_of_getElem? (i := 2) rfl))))))
theorem s_Mo_isNumber : Cond.selects "LinkHostModel" y_Mo_isNumber y_Mo_isNumber ∈ ztb := ztb_sel (q := (y_Mo_isNumber, 32)) (List.mem_append_right _ (List.mem_append_right _ (List.mem_append_right _ (List.mem_append_right _ (List.mem_append_left _ (List.mem_of_getElem? (i := 3) rfl))))))
theorem s_Mo_meet : Cond.selects "LinkHostModel" y_Mo_meet y_Mo_meet ∈ ztb := ztb_sel (q := (y_Mo_meet, 32)) (List.mem_append_right _ (List.mem_append_right _ (List.mem_append_right _ (List.mem_append_right _ (List.mem_append_left _ (List.mem_of_getElem? (i := 4) rfl))))))
theorem s_Mo_neighbourAt : Cond.selects "LinkHostModel" y_Mo_neighbourAt y_Mo_neighbourAt ∈ ztb := ztb_sel (q := (y_Mo_neighbourAt, 32)) (List.mem_append_right _ (List.mem_append_right _ (List.mem_append_right _ (List.mem_append_right _ (List.mem_append_left _ (List.mem_of_getElem? (i := 5) rfl))))))
theorem s_Mo_makeNeighbour : Cond.selects "LinkHostModel" y_Mo_makeNeighbour y_Mo_makeNeighbour ∈ ztb := ztb_sel (q := (y_Mo_makeNeighbour, 32)) (List.mem_append_right _ (List.mem_append_right _ (List.mem_append_right _ (List.mem_append_right _ (List.mem_append_left _ (List.mem_of_getElem? (i := 6) rfl))))))
theorem s_Mo_release : Cond.selects "LinkHostModel" y_Mo_release y_Mo_release ∈ ztb := ztb_sel (q := (y_Mo_release, 32)) (List.mem_append_right _ (List.mem_append_right _ (List.mem_append_right _ (List.mem_append_right _ (List.mem_append_left _ (List.mem_of_getElem? (i := 7) rfl))))))
theorem s_Mo_sendTo : Cond.selects "LinkHostModel" y_Mo_sendTo y_Mo_sendTo ∈ ztb := ztb_sel (q := (y_Mo_sendTo, 32)) (List.mem_append_right _ (List.mem_append_right _ (List.mem_append_right _ (List.mem_append_right _ (List.mem_append_left _ (List.mem_of_getElem? (i := 8) rfl))))))
theorem s_Mo_leave : Cond.selects "LinkHostModel" y_Mo_leave y_Mo_leave ∈ ztb := ztb_sel (q := (y_Mo_leave, 32)) (List.mem_append_right _ (List.mem_append_right _ (List.mem_append_right _ (List.mem_append_right _ (List.mem_append_left _ (List.mem_of_getElem? (i := 9) rfl))))))
theorem s_Mo_entryAt : Cond.selects "LinkHostModel" y_Mo_entryAt y_Mo_entryAt ∈ ztb := ztb_sel (q := (y_Mo_entryAt, 32)) (List.mem_append_right _ (List.mem_append_right _ (List.mem_append_right _ (List.mem_append_right _ (List.mem_append_left _ (List.mem_of_getElem? (i := 10) rfl))))))
theorem s_Mo_enter : Cond.selects "LinkHostModel" y_Mo_enter y_Mo_enter ∈ ztb := ztb_sel (q := (y_Mo_enter, 32)) (List.mem_append_right _ (List.mem_append_right _ (List.mem_append_right _ (List.mem_append_right _ (List.mem_append_left _ (List.mem_of_getElem? (i := 11) rfl))))))
theorem s_Mo_ownAt : Cond.selects "LinkHostModel" y_Mo_ownAt y_Mo_ownAt ∈ ztb := ztb_sel (q := (y_Mo_ownAt, 32)) (List.mem_append_right _ (List.mem_append_right _ (List.mem_append_right _ (List.mem_append_right _ (List.mem_append_left _ (List.mem_of_getElem? (i := 12) rfl))))))
theorem s_Mo_renew : Cond.selects "LinkHostModel" y_Mo_renew y_Mo_renew ∈ ztb := ztb_sel (q := (y_Mo_renew, 32)) (List.mem_append_right _ (List.mem_append_right _ (List.mem_append_right _ (List.mem_append_right _ (List.mem_append_left _ (List.mem_of_getElem? (i := 13) rfl))))))
theorem s_Mo_isAddress : Cond.selects "LinkHostModel" y_Mo_isAddress y_Mo_isAddress ∈ ztb := ztb_sel (q := (y_Mo_isAddress, 32)) (List.mem_append_right _ (List.mem_append_right _ (List.mem_append_right _ (List.mem_append_right _ (List.mem_append_left _ (List.mem_of_getElem? (i := 14) rfl))))))
theorem s_Mo_contradict : Cond.selects "LinkHostModel" y_Mo_contradict y_Mo_contradict ∈ ztb := ztb_sel (q := (y_Mo_contradict, 32)) (List.mem_append_right _ (List.mem_append_right _ (List.mem_append_right _ (List.mem_append_right _ (List.mem_append_left _ (List.mem_of_getElem? (i := 15) rfl))))))
theorem s_Mo_isLocal : Cond.selects "LinkHostModel" y_Mo_isLocal y_Mo_isLocal ∈ ztb := ztb_sel (q := (y_Mo_isLocal, 32)) (List.mem_append_right _ (List.mem_append_right _ (List.mem_append_right _ (List.mem_append_right _ (List.mem_append_right _ (List.mem_of_getElem? (i := 0) rfl))))))
theorem s_Mo_usable : Cond.selects "LinkHostModel" y_Mo_usable y_Mo_usable ∈ ztb := ztb_sel (q := (y_Mo_usable, 32)) (List.mem_append_right _ (List.mem_append_right _ (List.mem_append_right _ (List.mem_append_right _ (List.mem_append_right _ (List.mem_of_getElem? (i := 1) rfl))))))
theorem s_Mo_route : Cond.selects "LinkHostModel" y_Mo_route y_Mo_route ∈ ztb := ztb_sel (q := (y_Mo_route, 32)) (List.mem_append_right _ (List.mem_append_right _ (List.mem_append_right _ (List.mem_append_right _ (List.mem_append_right _ (List.mem_of_getElem? (i := 2) rfl))))))
theorem s_Mo_sizeFor : Cond.selects "LinkHostModel" y_Mo_sizeFor y_Mo_sizeFor ∈ ztb := ztb_sel (q := (y_Mo_sizeFor, 32)) (List.mem_append_right _ (List.mem_append_right _ (List.mem_append_right _ (List.mem_append_right _ (List.mem_append_right _ (List.mem_of_getElem? (i := 3) rfl))))))
theorem s_Mo_hop : Cond.selects "LinkHostModel" y_Mo_hop y_Mo_hop ∈ ztb := ztb_sel (q := (y_Mo_hop, 32)) (List.mem_append_right _ (List.mem_append_right _ (List.mem_append_right _ (List.mem_append_right _ (List.mem_append_right _ (List.mem_of_getElem? (i := 4) rfl))))))
theorem s_Mo_look : Cond.selects "LinkHostModel" y_Mo_look y_Mo_look ∈ ztb := ztb_sel (q := (y_Mo_look, 32)) (List.mem_append_right _ (List.mem_append_right _ (List.mem_append_right _ (List.mem_append_right _ (List.mem_append_right _ (List.mem_of_getElem? (i := 5) rfl))))))
theorem s_Mo_fault : Cond.selects "LinkHostModel" y_Mo_fault y_Mo_fault ∈ ztb := ztb_sel (q := (y_Mo_fault, 32)) (List.mem_append_right _ (List.mem_append_right _ (List.mem_append_right _ (List.mem_append_right _ (List.mem_append_right _ (List.mem_of_getElem? (i := 6) rfl))))))
theorem s_Mo_noOwn : Cond.selects "LinkHostModel" y_Mo_noOwn y_Mo_noOwn ∈ ztb := ztb_sel (q := (y_Mo_noOwn, 32)) (List.mem_append_right _ (List.mem_append_right _ (List.mem_append_right _ (List.mem_append_right _ (List.mem_append_right _ (List.mem_of_getElem? (i := 7) rfl))))))
theorem s_Mo_noOut : Cond.selects "LinkHostModel" y_Mo_noOut y_Mo_noOut ∈ ztb := ztb_sel (q := (y_Mo_noOut, 32)) (List.mem_append_right _ (List.mem_append_right _ (List.mem_append_right _ (List.mem_append_right _ (List.mem_append_right _ (List.mem_of_getElem? (i := 8) rfl))))))
theorem s_Mo_place : Cond.selects "LinkHostModel" y_Mo_place y_Mo_place ∈ ztb := ztb_sel (q := (y_Mo_place, 32)) (List.mem_append_right _ (List.mem_append_right _ (List.mem_append_right _ (List.mem_append_right _ (List.mem_append_right _ (List.mem_of_getElem? (i := 9) rfl))))))
abbrev i_Ho_init : zY := (y_Ho_init, b_Ho_init, 2, none, 7, 19, 95)
theorem m_Ho_init : zM i_Ho_init 1 := ⟨ztb_of k_30 rfl, ztb_of k_1 rfl, ⟨by decide, by decide⟩, by decide +kernel, by decide⟩
abbrev i_Ou_init : zY := (y_Ou_init, b_Ou_init, 1, none, 1, 3, 36)
theorem m_Ou_init : zM i_Ou_init 0 := ⟨ztb_of k_38 rfl, ztb_of k_2 rfl, ⟨by decide, by decide⟩, by decide +kernel, by decide⟩
abbrev i_Or_init : zY := (y_Or_init, b_Or_init, 1, none, 4, 1, 3)
theorem m_Or_init : zM i_Or_init 0 := ⟨ztb_of k_69 rfl, ztb_of k_3 rfl, ⟨by decide, by decide⟩, by decide +kernel, by decide⟩
abbrev i_Al_init : zY := (y_Al_init, b_Al_init, 1, none, 3, 0, 0)
theorem m_Al_init : zM i_Al_init 0 := ⟨ztb_of k_75 rfl, ztb_of k_6 rfl, ⟨by decide, by decide⟩, by decide +kernel, by decide⟩
abbrev i_Ab_init : zY := (y_Ab_init, b_Ab_init, 1, none, 2, 0, 0)
theorem m_Ab_init : zM i_Ab_init 0 := ⟨ztb_of k_78 rfl, ztb_of k_5 rfl, ⟨by decide, by decide⟩, by decide +kernel, by decide⟩
abbrev i_Ac_init : zY := (y_Ac_init, b_Ac_init, 1, none, 1, 0, 0)
theorem m_Ac_init : zM i_Ac_init 0 := ⟨ztb_of k_81 rfl, ztb_of k_4 rfl, ⟨by decide, by decide⟩, by decide +kernel, by decide⟩
abbrev i_Nr_init : zY := (y_Nr_init, b_Nr_init, 1, none, 4, 1, 3)
theorem m_Nr_init : zM i_Nr_init 0 := ⟨ztb_of k_105 rfl, ztb_of k_7 rfl, ⟨by decide, by decide⟩, by decide +kernel, by decide⟩
abbrev i_Tr_init : zY := (y_Tr_init, b_Tr_init, 2, none, 4, 1, 3)
theorem m_Tr_init : zM i_Tr_init 1 := ⟨ztb_of k_117 rfl, ztb_of k_8 rfl, ⟨by decide, by decide⟩, by decide +kernel, by decide⟩
abbrev i_Hd_init : zY := (y_Hd_init, b_Hd_init, 1, none, 1, 2, 12)
theorem m_Hd_init : zM i_Hd_init 0 := ⟨ztb_of k_132 rfl, ztb_of k_9 rfl, ⟨by decide, by decide⟩, by decide +kernel, by decide⟩
abbrev i_Ma_min : zY := (y_Ma_min, b_Ma_min, 2, (some .int), 0, 0, 0)
theorem m_Ma_min : zM i_Ma_min 2 := ⟨ztb_of k_149 rfl, ztb_of k_10 rfl, ⟨by decide, by decide⟩, by decide +kernel, by decide⟩
abbrev i_Ma_max : zY := (y_Ma_max, b_Ma_max, 2, (some .int), 0, 0, 0)
theorem m_Ma_max : zM i_Ma_max 2 := ⟨ztb_of k_152 rfl, ztb_of k_10 rfl, ⟨by decide, by decide⟩, by decide +kernel, by decide⟩
abbrev i_Ho_form : zY := (y_Ho_form, b_Ho_form, 5, none, 6, 2, 15)
theorem m_Ho_form : zM i_Ho_form 3 := ⟨ztb_of k_157 rfl, ztb_of k_1 rfl, ⟨by decide, by decide⟩, by decide +kernel, by decide⟩
abbrev i_Ho_addressOf : zY := (y_Ho_addressOf, b_Ho_addressOf, 2, (some .int), 0, 0, 0)
theorem m_Ho_addressOf : zM i_Ho_addressOf 2 := ⟨ztb_of k_162 rfl, ztb_of k_1 rfl, ⟨by decide, by decide⟩, by decide +kernel, by decide⟩
abbrev i_Oa_init : zY := (y_Oa_init, b_Oa_init, 3, none, 1, 0, 0)
theorem m_Oa_init : zM i_Oa_init 2 := ⟨ztb_of k_165 rfl, ztb_of k_11 rfl, ⟨by decide, by decide⟩, by decide +kernel, by decide⟩
abbrev i_Or_add : zY := (y_Or_add, b_Or_add, 2, none, 5, 1, 10)
theorem m_Or_add : zM i_Or_add 1 := ⟨ztb_of k_194 rfl, ztb_of k_3 rfl, ⟨by decide, by decide⟩, by decide +kernel, by decide⟩
abbrev i_Al_add : zY := (y_Al_add, b_Al_add, 2, (some .boolean), 4, 1, 10)
theorem m_Al_add : zM i_Al_add 1 := ⟨ztb_of k_198 rfl, ztb_of k_6 rfl, ⟨by decide, by decide⟩, by decide +kernel, by decide⟩
abbrev i_Al_add_2 : zY := (y_Al_add_2, b_Al_add_2, 4, none, 3, 1, 10)
theorem m_Al_add_2 : zM i_Al_add_2 3 := ⟨ztb_of k_202 rfl, ztb_of k_6 rfl, ⟨by decide, by decide⟩, by decide +kernel, by decide⟩
abbrev i_Al_grow : zY := (y_Al_grow, b_Al_grow, 1, (some (.array (.object "java/lang/Object"))), 2, 1, 10)
theorem m_Al_grow : zM i_Al_grow 0 := ⟨ztb_of k_206 rfl, ztb_of k_6 rfl, ⟨by decide, by decide⟩, by decide +kernel, by decide⟩
abbrev i_Al_grow_2 : zY := (y_Al_grow_2, b_Al_grow_2, 4, (some (.array (.object "java/lang/Object"))), 1, 1, 10)
theorem m_Al_grow_2 : zM i_Al_grow_2 1 := ⟨ztb_of k_210 rfl, ztb_of k_6 rfl, ⟨by decide, by decide⟩, by decide +kernel, by decide⟩
abbrev i_Ho_probe : zY := (y_Ho_probe, b_Ho_probe, 2, none, 2, 0, 0)
theorem m_Ho_probe : zM i_Ho_probe 1 := ⟨ztb_of k_255 rfl, ztb_of k_1 rfl, ⟨by decide, by decide⟩, by decide +kernel, by decide⟩
abbrev i_Ou_add : zY := (y_Ou_add, b_Ou_add, 4, none, 1, 0, 0)
theorem m_Ou_add : zM i_Ou_add 3 := ⟨ztb_of k_260 rfl, ztb_of k_2 rfl, ⟨by decide, by decide⟩, by decide +kernel, by decide⟩
abbrev i_Ho_neighbour : zY := (y_Ho_neighbour, b_Ho_neighbour, 3, (some .int), 4, 0, 0)
theorem m_Ho_neighbour : zM i_Ho_neighbour 1 := ⟨ztb_of k_308 rfl, ztb_of k_1 rfl, ⟨by decide, by decide⟩, by decide +kernel, by decide⟩
abbrev i_Nr_find : zY := (y_Nr_find, b_Nr_find, 3, (some (.object "LinkHost$Neighbour")), 3, 0, 0)
theorem m_Nr_find : zM i_Nr_find 1 := ⟨ztb_of k_312 rfl, ztb_of k_7 rfl, ⟨by decide, by decide⟩, by decide +kernel, by decide⟩
abbrev i_Al_size : zY := (y_Al_size, b_Al_size, 1, (some .int), 0, 0, 0)
theorem m_Al_size : zM i_Al_size 0 := ⟨ztb_of k_316 rfl, ztb_of k_6 rfl, ⟨by decide, by decide⟩, by decide +kernel, by decide⟩
abbrev i_Al_get : zY := (y_Al_get, b_Al_get, 2, (some (.object "java/lang/Object")), 2, 0, 0)
theorem m_Al_get : zM i_Al_get 1 := ⟨ztb_of k_320 rfl, ztb_of k_6 rfl, ⟨by decide, by decide⟩, by decide +kernel, by decide⟩
abbrev i_Ob_checkIndex : zY := (y_Ob_checkIndex, b_Ob_checkIndex, 2, (some .int), 1, 0, 0)
theorem m_Ob_checkIndex : zM i_Ob_checkIndex 2 := ⟨ztb_of k_323 rfl, ztb_of k_20 rfl, ⟨by decide, by decide⟩, by decide +kernel, by decide⟩
abbrev i_Pc_checkIndex : zY := (y_Pc_checkIndex, b_Pc_checkIndex, 3, (some .int), 0, 0, 0)
theorem m_Pc_checkIndex : zM i_Pc_checkIndex 3 := ⟨ztb_of k_326 rfl, ztb_of k_21 rfl, ⟨by decide, by decide⟩, by decide +kernel, by decide⟩
abbrev i_Al_elementData : zY := (y_Al_elementData, b_Al_elementData, 2, (some (.object "java/lang/Object")), 0, 0, 0)
theorem m_Al_elementData : zM i_Al_elementData 1 := ⟨ztb_of k_330 rfl, ztb_of k_6 rfl, ⟨by decide, by decide⟩, by decide +kernel, by decide⟩
abbrev i_Ne_hasWaiting : zY := (y_Ne_hasWaiting, b_Ne_hasWaiting, 1, (some .boolean), 0, 0, 0)
theorem m_Ne_hasWaiting : zM i_Ne_hasWaiting 0 := ⟨ztb_of k_336 rfl, ztb_of k_23 rfl, ⟨by decide, by decide⟩, by decide +kernel, by decide⟩
abbrev i_Ho_sizeTo : zY := (y_Ho_sizeTo, b_Ho_sizeTo, 3, (some .int), 4, 0, 0)
theorem m_Ho_sizeTo : zM i_Ho_sizeTo 1 := ⟨ztb_of k_340 rfl, ztb_of k_1 rfl, ⟨by decide, by decide⟩, by decide +kernel, by decide⟩
abbrev i_Tr_find : zY := (y_Tr_find, b_Tr_find, 3, (some (.object "LinkHost$Timed")), 3, 0, 0)
theorem m_Tr_find : zM i_Tr_find 1 := ⟨ztb_of k_344 rfl, ztb_of k_8 rfl, ⟨by decide, by decide⟩, by decide +kernel, by decide⟩
abbrev i_La_cell : zY := (y_La_cell, b_La_cell, 2, (some .int), 0, 0, 0)
theorem m_La_cell : zM i_La_cell 2 := ⟨ztb_of k_350 rfl, ztb_of k_0 rfl, ⟨by decide, by decide⟩, by decide +kernel, by decide⟩
abbrev i_Ho_tick : zY := (y_Ho_tick, b_Ho_tick, 3, none, 9, 1, 6)
theorem m_Ho_tick : zM i_Ho_tick 1 := ⟨ztb_of k_358 rfl, ztb_of k_1 rfl, ⟨by decide, by decide⟩, by decide +kernel, by decide⟩
abbrev i_Ho_isWithin : zY := (y_Ho_isWithin, b_Ho_isWithin, 3, (some .boolean), 0, 0, 0)
theorem m_Ho_isWithin : zM i_Ho_isWithin 3 := ⟨ztb_of k_361 rfl, ztb_of k_1 rfl, ⟨by decide, by decide⟩, by decide +kernel, by decide⟩
abbrev i_Ho_requireArguments : zY := (y_Ho_requireArguments, b_Ho_requireArguments, 1, none, 8, 1, 6)
theorem m_Ho_requireArguments : zM i_Ho_requireArguments 1 := ⟨ztb_of k_364 rfl, ztb_of k_1 rfl, ⟨by decide, by decide⟩, by decide +kernel, by decide⟩
abbrev i_Ho_doWhatIsDue : zY := (y_Ho_doWhatIsDue, b_Ho_doWhatIsDue, 2, none, 4, 0, 0)
theorem m_Ho_doWhatIsDue : zM i_Ho_doWhatIsDue 0 := ⟨ztb_of k_436 rfl, ztb_of k_1 rfl, ⟨by decide, by decide⟩, by decide +kernel, by decide⟩
abbrev i_Or_expire : zY := (y_Or_expire, b_Or_expire, 3, none, 3, 0, 0)
theorem m_Or_expire : zM i_Or_expire 1 := ⟨ztb_of k_440 rfl, ztb_of k_3 rfl, ⟨by decide, by decide⟩, by decide +kernel, by decide⟩
abbrev i_Al_remove : zY := (y_Al_remove, b_Al_remove, 4, (some (.object "java/lang/Object")), 2, 0, 0)
theorem m_Al_remove : zM i_Al_remove 1 := ⟨ztb_of k_447 rfl, ztb_of k_6 rfl, ⟨by decide, by decide⟩, by decide +kernel, by decide⟩
abbrev i_Al_fastRemove : zY := (y_Al_fastRemove, b_Al_fastRemove, 4, none, 1, 0, 0)
theorem m_Al_fastRemove : zM i_Al_fastRemove 2 := ⟨ztb_of k_451 rfl, ztb_of k_6 rfl, ⟨by decide, by decide⟩, by decide +kernel, by decide⟩
abbrev i_Or_length : zY := (y_Or_length, b_Or_length, 1, (some .int), 1, 0, 0)
theorem m_Or_length : zM i_Or_length 0 := ⟨ztb_of k_456 rfl, ztb_of k_3 rfl, ⟨by decide, by decide⟩, by decide +kernel, by decide⟩
abbrev i_Or_at : zY := (y_Or_at, b_Or_at, 2, (some (.object "LinkHost$OwnAddress")), 3, 0, 0)
theorem m_Or_at : zM i_Or_at 1 := ⟨ztb_of k_460 rfl, ztb_of k_3 rfl, ⟨by decide, by decide⟩, by decide +kernel, by decide⟩
abbrev i_Ho_ageOwn : zY := (y_Ho_ageOwn, b_Ho_ageOwn, 3, none, 3, 0, 0)
theorem m_Ho_ageOwn : zM i_Ho_ageOwn 1 := ⟨ztb_of k_464 rfl, ztb_of k_1 rfl, ⟨by decide, by decide⟩, by decide +kernel, by decide⟩
abbrev i_Nr_length : zY := (y_Nr_length, b_Nr_length, 1, (some .int), 1, 0, 0)
theorem m_Nr_length : zM i_Nr_length 0 := ⟨ztb_of k_468 rfl, ztb_of k_7 rfl, ⟨by decide, by decide⟩, by decide +kernel, by decide⟩
abbrev i_Nr_at : zY := (y_Nr_at, b_Nr_at, 2, (some (.object "LinkHost$Neighbour")), 3, 0, 0)
theorem m_Nr_at : zM i_Nr_at 1 := ⟨ztb_of k_472 rfl, ztb_of k_7 rfl, ⟨by decide, by decide⟩, by decide +kernel, by decide⟩
abbrev i_Ho_ageNeighbour : zY := (y_Ho_ageNeighbour, b_Ho_ageNeighbour, 3, none, 3, 0, 0)
theorem m_Ho_ageNeighbour : zM i_Ho_ageNeighbour 1 := ⟨ztb_of k_476 rfl, ztb_of k_1 rfl, ⟨by decide, by decide⟩, by decide +kernel, by decide⟩
abbrev i_Ne_isAskedFor : zY := (y_Ne_isAskedFor, b_Ne_isAskedFor, 1, (some .boolean), 0, 0, 0)
theorem m_Ne_isAskedFor : zM i_Ne_isAskedFor 0 := ⟨ztb_of k_480 rfl, ztb_of k_23 rfl, ⟨by decide, by decide⟩, by decide +kernel, by decide⟩
abbrev i_Ho_ask : zY := (y_Ho_ask, b_Ho_ask, 2, none, 2, 0, 0)
theorem m_Ho_ask : zM i_Ho_ask 1 := ⟨ztb_of k_484 rfl, ztb_of k_1 rfl, ⟨by decide, by decide⟩, by decide +kernel, by decide⟩
abbrev i_Ne_enter : zY := (y_Ne_enter, b_Ne_enter, 3, none, 0, 0, 0)
theorem m_Ne_enter : zM i_Ne_enter 2 := ⟨ztb_of k_488 rfl, ztb_of k_23 rfl, ⟨by decide, by decide⟩, by decide +kernel, by decide⟩
abbrev i_Nr_giveUp : zY := (y_Nr_giveUp, b_Nr_giveUp, 5, (some .int), 3, 0, 0)
theorem m_Nr_giveUp : zM i_Nr_giveUp 1 := ⟨ztb_of k_492 rfl, ztb_of k_7 rfl, ⟨by decide, by decide⟩, by decide +kernel, by decide⟩
abbrev i_Tr_expire : zY := (y_Tr_expire, b_Tr_expire, 3, none, 3, 0, 0)
theorem m_Tr_expire : zM i_Tr_expire 1 := ⟨ztb_of k_499 rfl, ztb_of k_8 rfl, ⟨by decide, by decide⟩, by decide +kernel, by decide⟩
abbrev i_Ho_router : zY := (y_Ho_router, b_Ho_router, 6, none, 9, 6, 41)
theorem m_Ho_router : zM i_Ho_router 4 := ⟨ztb_of k_508 rfl, ztb_of k_1 rfl, ⟨by decide, by decide⟩, by decide +kernel, by decide⟩
abbrev i_Ho_isNumber : zY := (y_Ho_isNumber, b_Ho_isNumber, 1, (some .boolean), 1, 0, 0)
theorem m_Ho_isNumber : zM i_Ho_isNumber 1 := ⟨ztb_of k_511 rfl, ztb_of k_1 rfl, ⟨by decide, by decide⟩, by decide +kernel, by decide⟩
abbrev i_Ho_isLife : zY := (y_Ho_isLife, b_Ho_isLife, 1, (some .boolean), 1, 0, 0)
theorem m_Ho_isLife : zM i_Ho_isLife 1 := ⟨ztb_of k_514 rfl, ztb_of k_1 rfl, ⟨by decide, by decide⟩, by decide +kernel, by decide⟩
abbrev i_Ho_requireUp : zY := (y_Ho_requireUp, b_Ho_requireUp, 1, none, 8, 1, 6)
theorem m_Ho_requireUp : zM i_Ho_requireUp 0 := ⟨ztb_of k_518 rfl, ztb_of k_1 rfl, ⟨by decide, by decide⟩, by decide +kernel, by decide⟩
abbrev i_Ho_learnNumber : zY := (y_Ho_learnNumber, b_Ho_learnNumber, 5, (some (.object "LinkHost$Neighbour")), 6, 2, 16)
theorem m_Ho_learnNumber : zM i_Ho_learnNumber 2 := ⟨ztb_of k_538 rfl, ztb_of k_1 rfl, ⟨by decide, by decide⟩, by decide +kernel, by decide⟩
abbrev i_Ne_init : zY := (y_Ne_init, b_Ne_init, 5, none, 1, 0, 0)
theorem m_Ne_init : zM i_Ne_init 4 := ⟨ztb_of k_542 rfl, ztb_of k_23 rfl, ⟨by decide, by decide⟩, by decide +kernel, by decide⟩
abbrev i_Nr_add : zY := (y_Nr_add, b_Nr_add, 2, none, 5, 1, 10)
theorem m_Nr_add : zM i_Nr_add 1 := ⟨ztb_of k_574 rfl, ztb_of k_7 rfl, ⟨by decide, by decide⟩, by decide +kernel, by decide⟩
abbrev i_Ho_sendWaiting : zY := (y_Ho_sendWaiting, b_Ho_sendWaiting, 2, none, 3, 0, 0)
theorem m_Ho_sendWaiting : zM i_Ho_sendWaiting 1 := ⟨ztb_of k_579 rfl, ztb_of k_1 rfl, ⟨by decide, by decide⟩, by decide +kernel, by decide⟩
abbrev i_Ho_deliver : zY := (y_Ho_deliver, b_Ho_deliver, 3, none, 2, 0, 0)
theorem m_Ho_deliver : zM i_Ho_deliver 2 := ⟨ztb_of k_583 rfl, ztb_of k_1 rfl, ⟨by decide, by decide⟩, by decide +kernel, by decide⟩
abbrev i_Tr_drop : zY := (y_Tr_drop, b_Tr_drop, 3, none, 3, 0, 0)
theorem m_Tr_drop : zM i_Tr_drop 1 := ⟨ztb_of k_587 rfl, ztb_of k_8 rfl, ⟨by decide, by decide⟩, by decide +kernel, by decide⟩
abbrev i_Ho_endOf : zY := (y_Ho_endOf, b_Ho_endOf, 2, (some .int), 0, 0, 0)
theorem m_Ho_endOf : zM i_Ho_endOf 1 := ⟨ztb_of k_591 rfl, ztb_of k_1 rfl, ⟨by decide, by decide⟩, by decide +kernel, by decide⟩
abbrev i_Tr_keep : zY := (y_Tr_keep, b_Tr_keep, 5, none, 5, 2, 13)
theorem m_Tr_keep : zM i_Tr_keep 3 := ⟨ztb_of k_595 rfl, ztb_of k_8 rfl, ⟨by decide, by decide⟩, by decide +kernel, by decide⟩
abbrev i_Al_isEmpty : zY := (y_Al_isEmpty, b_Al_isEmpty, 1, (some .boolean), 0, 0, 0)
theorem m_Al_isEmpty : zM i_Al_isEmpty 0 := ⟨ztb_of k_600 rfl, ztb_of k_6 rfl, ⟨by decide, by decide⟩, by decide +kernel, by decide⟩
abbrev i_Ti_init : zY := (y_Ti_init, b_Ti_init, 4, none, 1, 0, 0)
theorem m_Ti_init : zM i_Ti_init 3 := ⟨ztb_of k_604 rfl, ztb_of k_24 rfl, ⟨by decide, by decide⟩, by decide +kernel, by decide⟩
abbrev i_Ho_prefix : zY := (y_Ho_prefix, b_Ho_prefix, 5, none, 9, 6, 40)
theorem m_Ho_prefix : zM i_Ho_prefix 4 := ⟨ztb_of k_628 rfl, ztb_of k_1 rfl, ⟨by decide, by decide⟩, by decide +kernel, by decide⟩
abbrev i_Ho_hearOnLink : zY := (y_Ho_hearOnLink, b_Ho_hearOnLink, 3, none, 6, 2, 13)
theorem m_Ho_hearOnLink : zM i_Ho_hearOnLink 2 := ⟨ztb_of k_632 rfl, ztb_of k_1 rfl, ⟨by decide, by decide⟩, by decide +kernel, by decide⟩
abbrev i_Ho_hearForm : zY := (y_Ho_hearForm, b_Ho_hearForm, 5, none, 7, 2, 15)
theorem m_Ho_hearForm : zM i_Ho_hearForm 3 := ⟨ztb_of k_636 rfl, ztb_of k_1 rfl, ⟨by decide, by decide⟩, by decide +kernel, by decide⟩
abbrev i_Or_find : zY := (y_Or_find, b_Or_find, 3, (some (.object "LinkHost$OwnAddress")), 3, 0, 0)
theorem m_Or_find : zM i_Or_find 1 := ⟨ztb_of k_640 rfl, ztb_of k_3 rfl, ⟨by decide, by decide⟩, by decide +kernel, by decide⟩
abbrev i_Ho_renew : zY := (y_Ho_renew, b_Ho_renew, 5, none, 1, 0, 0)
theorem m_Ho_renew : zM i_Ho_renew 3 := ⟨ztb_of k_644 rfl, ztb_of k_1 rfl, ⟨by decide, by decide⟩, by decide +kernel, by decide⟩
abbrev i_Ho_asked : zY := (y_Ho_asked, b_Ho_asked, 5, none, 9, 4, 28)
theorem m_Ho_asked : zM i_Ho_asked 3 := ⟨ztb_of k_651 rfl, ztb_of k_1 rfl, ⟨by decide, by decide⟩, by decide +kernel, by decide⟩
abbrev i_Ho_isAddress : zY := (y_Ho_isAddress, b_Ho_isAddress, 1, (some .boolean), 1, 0, 0)
theorem m_Ho_isAddress : zM i_Ho_isAddress 1 := ⟨ztb_of k_654 rfl, ztb_of k_1 rfl, ⟨by decide, by decide⟩, by decide +kernel, by decide⟩
abbrev i_Ho_prefixOf : zY := (y_Ho_prefixOf, b_Ho_prefixOf, 1, (some .int), 0, 0, 0)
theorem m_Ho_prefixOf : zM i_Ho_prefixOf 1 := ⟨ztb_of k_657 rfl, ztb_of k_1 rfl, ⟨by decide, by decide⟩, by decide +kernel, by decide⟩
abbrev i_Oa_isUsable : zY := (y_Oa_isUsable, b_Oa_isUsable, 1, (some .boolean), 0, 0, 0)
theorem m_Oa_isUsable : zM i_Oa_isUsable 0 := ⟨ztb_of k_661 rfl, ztb_of k_11 rfl, ⟨by decide, by decide⟩, by decide +kernel, by decide⟩
abbrev i_Ho_markDuplicate : zY := (y_Ho_markDuplicate, b_Ho_markDuplicate, 2, none, 2, 0, 0)
theorem m_Ho_markDuplicate : zM i_Ho_markDuplicate 1 := ⟨ztb_of k_665 rfl, ztb_of k_1 rfl, ⟨by decide, by decide⟩, by decide +kernel, by decide⟩
abbrev i_Ho_isLocal : zY := (y_Ho_isLocal, b_Ho_isLocal, 1, (some .boolean), 1, 0, 0)
theorem m_Ho_isLocal : zM i_Ho_isLocal 1 := ⟨ztb_of k_668 rfl, ztb_of k_1 rfl, ⟨by decide, by decide⟩, by decide +kernel, by decide⟩
abbrev i_Ho_told : zY := (y_Ho_told, b_Ho_told, 6, none, 9, 2, 12)
theorem m_Ho_told : zM i_Ho_told 3 := ⟨ztb_of k_675 rfl, ztb_of k_1 rfl, ⟨by decide, by decide⟩, by decide +kernel, by decide⟩
abbrev i_Ho_hearNumber : zY := (y_Ho_hearNumber, b_Ho_hearNumber, 6, none, 5, 0, 0)
theorem m_Ho_hearNumber : zM i_Ho_hearNumber 3 := ⟨ztb_of k_679 rfl, ztb_of k_1 rfl, ⟨by decide, by decide⟩, by decide +kernel, by decide⟩
abbrev i_Ho_hearWhetherRouter : zY := (y_Ho_hearWhetherRouter, b_Ho_hearWhetherRouter, 3, none, 4, 0, 0)
theorem m_Ho_hearWhetherRouter : zM i_Ho_hearWhetherRouter 2 := ⟨ztb_of k_683 rfl, ztb_of k_1 rfl, ⟨by decide, by decide⟩, by decide +kernel, by decide⟩
abbrev i_Ho_send : zY := (y_Ho_send, b_Ho_send, 4, (some .int), 9, 4, 28)
theorem m_Ho_send : zM i_Ho_send 2 := ⟨ztb_of k_690 rfl, ztb_of k_1 rfl, ⟨by decide, by decide⟩, by decide +kernel, by decide⟩
abbrev i_Or_hasUsable : zY := (y_Or_hasUsable, b_Or_hasUsable, 4, (some .boolean), 3, 0, 0)
theorem m_Or_hasUsable : zM i_Or_hasUsable 1 := ⟨ztb_of k_694 rfl, ztb_of k_3 rfl, ⟨by decide, by decide⟩, by decide +kernel, by decide⟩
abbrev i_Ho_isOnLink : zY := (y_Ho_isOnLink, b_Ho_isOnLink, 2, (some .boolean), 4, 0, 0)
theorem m_Ho_isOnLink : zM i_Ho_isOnLink 1 := ⟨ztb_of k_701 rfl, ztb_of k_1 rfl, ⟨by decide, by decide⟩, by decide +kernel, by decide⟩
abbrev i_Ho_pickRouter : zY := (y_Ho_pickRouter, b_Ho_pickRouter, 3, (some .int), 4, 0, 0)
theorem m_Ho_pickRouter : zM i_Ho_pickRouter 0 := ⟨ztb_of k_705 rfl, ztb_of k_1 rfl, ⟨by decide, by decide⟩, by decide +kernel, by decide⟩
abbrev i_Tr_length : zY := (y_Tr_length, b_Tr_length, 1, (some .int), 1, 0, 0)
theorem m_Tr_length : zM i_Tr_length 0 := ⟨ztb_of k_709 rfl, ztb_of k_8 rfl, ⟨by decide, by decide⟩, by decide +kernel, by decide⟩
abbrev i_Tr_at : zY := (y_Tr_at, b_Tr_at, 2, (some (.object "LinkHost$Timed")), 3, 0, 0)
theorem m_Tr_at : zM i_Tr_at 1 := ⟨ztb_of k_713 rfl, ztb_of k_8 rfl, ⟨by decide, by decide⟩, by decide +kernel, by decide⟩
abbrev i_Ho_sendThrough : zY := (y_Ho_sendThrough, b_Ho_sendThrough, 4, (some .int), 6, 2, 16)
theorem m_Ho_sendThrough : zM i_Ho_sendThrough 2 := ⟨ztb_of k_717 rfl, ztb_of k_1 rfl, ⟨by decide, by decide⟩, by decide +kernel, by decide⟩
abbrev i_Ho_smaller : zY := (y_Ho_smaller, b_Ho_smaller, 3, none, 9, 4, 25)
theorem m_Ho_smaller : zM i_Ho_smaller 2 := ⟨ztb_of k_724 rfl, ztb_of k_1 rfl, ⟨by decide, by decide⟩, by decide +kernel, by decide⟩
abbrev i_Ho_header : zY := (y_Ho_header, b_Ho_header, 3, (some .int), 9, 2, 12)
theorem m_Ho_header : zM i_Ho_header 2 := ⟨ztb_of k_731 rfl, ztb_of k_1 rfl, ⟨by decide, by decide⟩, by decide +kernel, by decide⟩
abbrev i_Hd_isFull : zY := (y_Hd_isFull, b_Hd_isFull, 1, (some .boolean), 0, 0, 0)
theorem m_Hd_isFull : zM i_Hd_isFull 0 := ⟨ztb_of k_735 rfl, ztb_of k_9 rfl, ⟨by decide, by decide⟩, by decide +kernel, by decide⟩
abbrev i_Hd_add : zY := (y_Hd_add, b_Hd_add, 3, none, 0, 0, 0)
theorem m_Hd_add : zM i_Hd_add 2 := ⟨ztb_of k_740 rfl, ztb_of k_9 rfl, ⟨by decide, by decide⟩, by decide +kernel, by decide⟩
abbrev i_Ho_come : zY := (y_Ho_come, b_Ho_come, 4, (some .int), 9, 2, 12)
theorem m_Ho_come : zM i_Ho_come 2 := ⟨ztb_of k_747 rfl, ztb_of k_1 rfl, ⟨by decide, by decide⟩, by decide +kernel, by decide⟩
abbrev i_Ho_isForHost : zY := (y_Ho_isForHost, b_Ho_isForHost, 3, (some .boolean), 4, 0, 0)
theorem m_Ho_isForHost : zM i_Ho_isForHost 1 := ⟨ztb_of k_751 rfl, ztb_of k_1 rfl, ⟨by decide, by decide⟩, by decide +kernel, by decide⟩
abbrev i_Ho_lookAtHeaders : zY := (y_Ho_lookAtHeaders, b_Ho_lookAtHeaders, 4, (some .int), 4, 0, 0)
theorem m_Ho_lookAtHeaders : zM i_Ho_lookAtHeaders 2 := ⟨ztb_of k_755 rfl, ztb_of k_1 rfl, ⟨by decide, by decide⟩, by decide +kernel, by decide⟩
abbrev i_Ho_goesOn : zY := (y_Ho_goesOn, b_Ho_goesOn, 6, (some .boolean), 3, 0, 0)
theorem m_Ho_goesOn : zM i_Ho_goesOn 3 := ⟨ztb_of k_759 rfl, ztb_of k_1 rfl, ⟨by decide, by decide⟩, by decide +kernel, by decide⟩
abbrev i_Ho_answerFault : zY := (y_Ho_answerFault, b_Ho_answerFault, 6, none, 2, 0, 0)
theorem m_Ho_answerFault : zM i_Ho_answerFault 4 := ⟨ztb_of k_763 rfl, ztb_of k_1 rfl, ⟨by decide, by decide⟩, by decide +kernel, by decide⟩
abbrev i_Hd_clear : zY := (y_Hd_clear, b_Hd_clear, 1, none, 0, 0, 0)
theorem m_Hd_clear : zM i_Hd_clear 0 := ⟨ztb_of k_767 rfl, ztb_of k_9 rfl, ⟨by decide, by decide⟩, by decide +kernel, by decide⟩
abbrev i_Ho_count : zY := (y_Ho_count, b_Ho_count, 2, (some .int), 9, 1, 6)
theorem m_Ho_count : zM i_Ho_count 1 := ⟨ztb_of k_774 rfl, ztb_of k_1 rfl, ⟨by decide, by decide⟩, by decide +kernel, by decide⟩
abbrev i_Ho_own : zY := (y_Ho_own, b_Ho_own, 3, (some .int), 9, 1, 6)
theorem m_Ho_own : zM i_Ho_own 1 := ⟨ztb_of k_782 rfl, ztb_of k_1 rfl, ⟨by decide, by decide⟩, by decide +kernel, by decide⟩
abbrev i_Ho_requireIndex : zY := (y_Ho_requireIndex, b_Ho_requireIndex, 2, none, 8, 1, 6)
theorem m_Ho_requireIndex : zM i_Ho_requireIndex 2 := ⟨ztb_of k_785 rfl, ztb_of k_1 rfl, ⟨by decide, by decide⟩, by decide +kernel, by decide⟩
abbrev i_Ho_until : zY := (y_Ho_until, b_Ho_until, 3, (some .int), 9, 1, 6)
theorem m_Ho_until : zM i_Ho_until 1 := ⟨ztb_of k_809 rfl, ztb_of k_1 rfl, ⟨by decide, by decide⟩, by decide +kernel, by decide⟩
abbrev i_Ho_outKind : zY := (y_Ho_outKind, b_Ho_outKind, 2, (some .int), 9, 1, 6)
theorem m_Ho_outKind : zM i_Ho_outKind 1 := ⟨ztb_of k_816 rfl, ztb_of k_1 rfl, ⟨by decide, by decide⟩, by decide +kernel, by decide⟩
abbrev i_Ou_slot : zY := (y_Ou_slot, b_Ou_slot, 2, (some .int), 1, 0, 0)
theorem m_Ou_slot : zM i_Ou_slot 1 := ⟨ztb_of k_820 rfl, ztb_of k_2 rfl, ⟨by decide, by decide⟩, by decide +kernel, by decide⟩
abbrev i_Ma_floorMod : zY := (y_Ma_floorMod, b_Ma_floorMod, 3, (some .int), 0, 0, 0)
theorem m_Ma_floorMod : zM i_Ma_floorMod 2 := ⟨ztb_of k_823 rfl, ztb_of k_10 rfl, ⟨by decide, by decide⟩, by decide +kernel, by decide⟩
abbrev i_Ho_outTo : zY := (y_Ho_outTo, b_Ho_outTo, 2, (some .int), 9, 1, 6)
theorem m_Ho_outTo : zM i_Ho_outTo 1 := ⟨ztb_of k_830 rfl, ztb_of k_1 rfl, ⟨by decide, by decide⟩, by decide +kernel, by decide⟩
abbrev i_Ho_outX : zY := (y_Ho_outX, b_Ho_outX, 2, (some .int), 9, 1, 6)
theorem m_Ho_outX : zM i_Ho_outX 1 := ⟨ztb_of k_837 rfl, ztb_of k_1 rfl, ⟨by decide, by decide⟩, by decide +kernel, by decide⟩
abbrev i_Mo_init : zY := (y_Mo_init, b_Mo_init, 2, none, 2, 20, 195)
theorem m_Mo_init : zM i_Mo_init 1 := ⟨ztb_of k_842 rfl, ztb_of k_15 rfl, ⟨by decide, by decide⟩, by decide +kernel, by decide⟩
abbrev i_Mo_form : zY := (y_Mo_form, b_Mo_form, 4, none, 1, 0, 0)
theorem m_Mo_form : zM i_Mo_form 3 := ⟨ztb_of k_847 rfl, ztb_of k_15 rfl, ⟨by decide, by decide⟩, by decide +kernel, by decide⟩
abbrev i_Mo_end : zY := (y_Mo_end, b_Mo_end, 2, (some .int), 0, 0, 0)
theorem m_Mo_end : zM i_Mo_end 1 := ⟨ztb_of k_851 rfl, ztb_of k_15 rfl, ⟨by decide, by decide⟩, by decide +kernel, by decide⟩
abbrev i_Mo_out : zY := (y_Mo_out, b_Mo_out, 5, none, 0, 0, 0)
theorem m_Mo_out : zM i_Mo_out 3 := ⟨ztb_of k_857 rfl, ztb_of k_15 rfl, ⟨by decide, by decide⟩, by decide +kernel, by decide⟩
abbrev i_Mo_thrown : zY := (y_Mo_thrown, b_Mo_thrown, 1, (some .int), 0, 0, 0)
theorem m_Mo_thrown : zM i_Mo_thrown 0 := ⟨ztb_of k_959 rfl, ztb_of k_15 rfl, ⟨by decide, by decide⟩, by decide +kernel, by decide⟩
abbrev i_Mo_tick : zY := (y_Mo_tick, b_Mo_tick, 3, none, 4, 0, 0)
theorem m_Mo_tick : zM i_Mo_tick 1 := ⟨ztb_of k_963 rfl, ztb_of k_15 rfl, ⟨by decide, by decide⟩, by decide +kernel, by decide⟩
abbrev i_Mo_ageOwn : zY := (y_Mo_ageOwn, b_Mo_ageOwn, 4, none, 1, 0, 0)
theorem m_Mo_ageOwn : zM i_Mo_ageOwn 0 := ⟨ztb_of k_967 rfl, ztb_of k_15 rfl, ⟨by decide, by decide⟩, by decide +kernel, by decide⟩
abbrev i_Mo_dropOwn : zY := (y_Mo_dropOwn, b_Mo_dropOwn, 3, none, 0, 0, 0)
theorem m_Mo_dropOwn : zM i_Mo_dropOwn 1 := ⟨ztb_of k_971 rfl, ztb_of k_15 rfl, ⟨by decide, by decide⟩, by decide +kernel, by decide⟩
abbrev i_Mo_ageNeighbours : zY := (y_Mo_ageNeighbours, b_Mo_ageNeighbours, 2, none, 3, 0, 0)
theorem m_Mo_ageNeighbours : zM i_Mo_ageNeighbours 0 := ⟨ztb_of k_975 rfl, ztb_of k_15 rfl, ⟨by decide, by decide⟩, by decide +kernel, by decide⟩
abbrev i_Mo_ageNeighbour : zY := (y_Mo_ageNeighbour, b_Mo_ageNeighbour, 3, (some .boolean), 2, 0, 0)
theorem m_Mo_ageNeighbour : zM i_Mo_ageNeighbour 1 := ⟨ztb_of k_979 rfl, ztb_of k_15 rfl, ⟨by decide, by decide⟩, by decide +kernel, by decide⟩
abbrev i_Mo_ask : zY := (y_Mo_ask, b_Mo_ask, 2, none, 1, 0, 0)
theorem m_Mo_ask : zM i_Mo_ask 1 := ⟨ztb_of k_983 rfl, ztb_of k_15 rfl, ⟨by decide, by decide⟩, by decide +kernel, by decide⟩
abbrev i_Mo_turn : zY := (y_Mo_turn, b_Mo_turn, 3, none, 0, 0, 0)
theorem m_Mo_turn : zM i_Mo_turn 2 := ⟨ztb_of k_987 rfl, ztb_of k_15 rfl, ⟨by decide, by decide⟩, by decide +kernel, by decide⟩
abbrev i_Mo_dropNeighbour : zY := (y_Mo_dropNeighbour, b_Mo_dropNeighbour, 3, none, 0, 0, 0)
theorem m_Mo_dropNeighbour : zM i_Mo_dropNeighbour 1 := ⟨ztb_of k_991 rfl, ztb_of k_15 rfl, ⟨by decide, by decide⟩, by decide +kernel, by decide⟩
abbrev i_Mo_ageEntries : zY := (y_Mo_ageEntries, b_Mo_ageEntries, 3, none, 1, 0, 0)
theorem m_Mo_ageEntries : zM i_Mo_ageEntries 0 := ⟨ztb_of k_995 rfl, ztb_of k_15 rfl, ⟨by decide, by decide⟩, by decide +kernel, by decide⟩
abbrev i_Mo_dropEntry : zY := (y_Mo_dropEntry, b_Mo_dropEntry, 4, none, 0, 0, 0)
theorem m_Mo_dropEntry : zM i_Mo_dropEntry 2 := ⟨ztb_of k_999 rfl, ztb_of k_15 rfl, ⟨by decide, by decide⟩, by decide +kernel, by decide⟩
abbrev i_Mo_router : zY := (y_Mo_router, b_Mo_router, 8, none, 4, 0, 0)
theorem m_Mo_router : zM i_Mo_router 4 := ⟨ztb_of k_1003 rfl, ztb_of k_15 rfl, ⟨by decide, by decide⟩, by decide +kernel, by decide⟩
abbrev i_Mo_isNumber : zY := (y_Mo_isNumber, b_Mo_isNumber, 2, (some .boolean), 0, 0, 0)
theorem m_Mo_isNumber : zM i_Mo_isNumber 1 := ⟨ztb_of k_1007 rfl, ztb_of k_15 rfl, ⟨by decide, by decide⟩, by decide +kernel, by decide⟩
abbrev i_Mo_meet : zY := (y_Mo_meet, b_Mo_meet, 4, (some .int), 3, 0, 0)
theorem m_Mo_meet : zM i_Mo_meet 2 := ⟨ztb_of k_1011 rfl, ztb_of k_15 rfl, ⟨by decide, by decide⟩, by decide +kernel, by decide⟩
abbrev i_Mo_neighbourAt : zY := (y_Mo_neighbourAt, b_Mo_neighbourAt, 3, (some .int), 0, 0, 0)
theorem m_Mo_neighbourAt : zM i_Mo_neighbourAt 1 := ⟨ztb_of k_1015 rfl, ztb_of k_15 rfl, ⟨by decide, by decide⟩, by decide +kernel, by decide⟩
abbrev i_Mo_makeNeighbour : zY := (y_Mo_makeNeighbour, b_Mo_makeNeighbour, 5, (some .int), 1, 0, 0)
theorem m_Mo_makeNeighbour : zM i_Mo_makeNeighbour 3 := ⟨ztb_of k_1019 rfl, ztb_of k_15 rfl, ⟨by decide, by decide⟩, by decide +kernel, by decide⟩
abbrev i_Mo_release : zY := (y_Mo_release, b_Mo_release, 3, none, 2, 0, 0)
theorem m_Mo_release : zM i_Mo_release 1 := ⟨ztb_of k_1023 rfl, ztb_of k_15 rfl, ⟨by decide, by decide⟩, by decide +kernel, by decide⟩
abbrev i_Mo_sendTo : zY := (y_Mo_sendTo, b_Mo_sendTo, 3, none, 1, 0, 0)
theorem m_Mo_sendTo : zM i_Mo_sendTo 2 := ⟨ztb_of k_1027 rfl, ztb_of k_15 rfl, ⟨by decide, by decide⟩, by decide +kernel, by decide⟩
abbrev i_Mo_leave : zY := (y_Mo_leave, b_Mo_leave, 4, none, 1, 0, 0)
theorem m_Mo_leave : zM i_Mo_leave 2 := ⟨ztb_of k_1031 rfl, ztb_of k_15 rfl, ⟨by decide, by decide⟩, by decide +kernel, by decide⟩
abbrev i_Mo_entryAt : zY := (y_Mo_entryAt, b_Mo_entryAt, 4, (some .int), 0, 0, 0)
theorem m_Mo_entryAt : zM i_Mo_entryAt 2 := ⟨ztb_of k_1035 rfl, ztb_of k_15 rfl, ⟨by decide, by decide⟩, by decide +kernel, by decide⟩
abbrev i_Mo_enter : zY := (y_Mo_enter, b_Mo_enter, 6, none, 1, 0, 0)
theorem m_Mo_enter : zM i_Mo_enter 4 := ⟨ztb_of k_1039 rfl, ztb_of k_15 rfl, ⟨by decide, by decide⟩, by decide +kernel, by decide⟩
abbrev i_Mo_prefix : zY := (y_Mo_prefix, b_Mo_prefix, 7, none, 2, 0, 0)
theorem m_Mo_prefix : zM i_Mo_prefix 4 := ⟨ztb_of k_1043 rfl, ztb_of k_15 rfl, ⟨by decide, by decide⟩, by decide +kernel, by decide⟩
abbrev i_Mo_ownAt : zY := (y_Mo_ownAt, b_Mo_ownAt, 3, (some .int), 0, 0, 0)
theorem m_Mo_ownAt : zM i_Mo_ownAt 1 := ⟨ztb_of k_1047 rfl, ztb_of k_15 rfl, ⟨by decide, by decide⟩, by decide +kernel, by decide⟩
abbrev i_Mo_renew : zY := (y_Mo_renew, b_Mo_renew, 5, none, 1, 0, 0)
theorem m_Mo_renew : zM i_Mo_renew 3 := ⟨ztb_of k_1051 rfl, ztb_of k_15 rfl, ⟨by decide, by decide⟩, by decide +kernel, by decide⟩
abbrev i_Mo_asked : zY := (y_Mo_asked, b_Mo_asked, 7, none, 4, 0, 0)
theorem m_Mo_asked : zM i_Mo_asked 3 := ⟨ztb_of k_1055 rfl, ztb_of k_15 rfl, ⟨by decide, by decide⟩, by decide +kernel, by decide⟩
abbrev i_Mo_isAddress : zY := (y_Mo_isAddress, b_Mo_isAddress, 2, (some .boolean), 0, 0, 0)
theorem m_Mo_isAddress : zM i_Mo_isAddress 1 := ⟨ztb_of k_1059 rfl, ztb_of k_15 rfl, ⟨by decide, by decide⟩, by decide +kernel, by decide⟩
abbrev i_Mo_contradict : zY := (y_Mo_contradict, b_Mo_contradict, 2, none, 1, 0, 0)
theorem m_Mo_contradict : zM i_Mo_contradict 1 := ⟨ztb_of k_1064 rfl, ztb_of k_15 rfl, ⟨by decide, by decide⟩, by decide +kernel, by decide⟩
abbrev i_Mo_isLocal : zY := (y_Mo_isLocal, b_Mo_isLocal, 2, (some .boolean), 0, 0, 0)
theorem m_Mo_isLocal : zM i_Mo_isLocal 1 := ⟨ztb_of k_1068 rfl, ztb_of k_15 rfl, ⟨by decide, by decide⟩, by decide +kernel, by decide⟩
abbrev i_Mo_usable : zY := (y_Mo_usable, b_Mo_usable, 2, (some .boolean), 0, 0, 0)
theorem m_Mo_usable : zM i_Mo_usable 1 := ⟨ztb_of k_1072 rfl, ztb_of k_15 rfl, ⟨by decide, by decide⟩, by decide +kernel, by decide⟩
abbrev i_Mo_told : zY := (y_Mo_told, b_Mo_told, 8, none, 3, 0, 0)
theorem m_Mo_told : zM i_Mo_told 3 := ⟨ztb_of k_1076 rfl, ztb_of k_15 rfl, ⟨by decide, by decide⟩, by decide +kernel, by decide⟩
abbrev i_Mo_route : zY := (y_Mo_route, b_Mo_route, 3, none, 2, 0, 0)
theorem m_Mo_route : zM i_Mo_route 2 := ⟨ztb_of k_1080 rfl, ztb_of k_15 rfl, ⟨by decide, by decide⟩, by decide +kernel, by decide⟩
abbrev i_Mo_send : zY := (y_Mo_send, b_Mo_send, 7, (some .int), 2, 0, 0)
theorem m_Mo_send : zM i_Mo_send 2 := ⟨ztb_of k_1084 rfl, ztb_of k_15 rfl, ⟨by decide, by decide⟩, by decide +kernel, by decide⟩
abbrev i_Mo_sizeFor : zY := (y_Mo_sizeFor, b_Mo_sizeFor, 3, (some .int), 1, 0, 0)
theorem m_Mo_sizeFor : zM i_Mo_sizeFor 1 := ⟨ztb_of k_1088 rfl, ztb_of k_15 rfl, ⟨by decide, by decide⟩, by decide +kernel, by decide⟩
abbrev i_Mo_hop : zY := (y_Mo_hop, b_Mo_hop, 3, (some .int), 1, 0, 0)
theorem m_Mo_hop : zM i_Mo_hop 0 := ⟨ztb_of k_1092 rfl, ztb_of k_15 rfl, ⟨by decide, by decide⟩, by decide +kernel, by decide⟩
abbrev i_Mo_smaller : zY := (y_Mo_smaller, b_Mo_smaller, 3, none, 2, 0, 0)
theorem m_Mo_smaller : zM i_Mo_smaller 2 := ⟨ztb_of k_1096 rfl, ztb_of k_15 rfl, ⟨by decide, by decide⟩, by decide +kernel, by decide⟩
abbrev i_Mo_header : zY := (y_Mo_header, b_Mo_header, 3, (some .int), 0, 0, 0)
theorem m_Mo_header : zM i_Mo_header 2 := ⟨ztb_of k_1100 rfl, ztb_of k_15 rfl, ⟨by decide, by decide⟩, by decide +kernel, by decide⟩
abbrev i_Mo_come : zY := (y_Mo_come, b_Mo_come, 7, (some .int), 2, 0, 0)
theorem m_Mo_come : zM i_Mo_come 2 := ⟨ztb_of k_1104 rfl, ztb_of k_15 rfl, ⟨by decide, by decide⟩, by decide +kernel, by decide⟩
abbrev i_Mo_look : zY := (y_Mo_look, b_Mo_look, 4, (some .int), 0, 0, 0)
theorem m_Mo_look : zM i_Mo_look 2 := ⟨ztb_of k_1108 rfl, ztb_of k_15 rfl, ⟨by decide, by decide⟩, by decide +kernel, by decide⟩
abbrev i_Mo_fault : zY := (y_Mo_fault, b_Mo_fault, 5, none, 1, 0, 0)
theorem m_Mo_fault : zM i_Mo_fault 4 := ⟨ztb_of k_1112 rfl, ztb_of k_15 rfl, ⟨by decide, by decide⟩, by decide +kernel, by decide⟩
abbrev i_Mo_count : zY := (y_Mo_count, b_Mo_count, 2, (some .int), 0, 0, 0)
theorem m_Mo_count : zM i_Mo_count 1 := ⟨ztb_of k_1116 rfl, ztb_of k_15 rfl, ⟨by decide, by decide⟩, by decide +kernel, by decide⟩
abbrev i_Mo_own : zY := (y_Mo_own, b_Mo_own, 2, (some .int), 1, 0, 0)
theorem m_Mo_own : zM i_Mo_own 1 := ⟨ztb_of k_1120 rfl, ztb_of k_15 rfl, ⟨by decide, by decide⟩, by decide +kernel, by decide⟩
abbrev i_Mo_noOwn : zY := (y_Mo_noOwn, b_Mo_noOwn, 2, (some .boolean), 0, 0, 0)
theorem m_Mo_noOwn : zM i_Mo_noOwn 1 := ⟨ztb_of k_1124 rfl, ztb_of k_15 rfl, ⟨by decide, by decide⟩, by decide +kernel, by decide⟩
abbrev i_Mo_until : zY := (y_Mo_until, b_Mo_until, 2, (some .int), 1, 0, 0)
theorem m_Mo_until : zM i_Mo_until 1 := ⟨ztb_of k_1128 rfl, ztb_of k_15 rfl, ⟨by decide, by decide⟩, by decide +kernel, by decide⟩
abbrev i_Mo_neighbour : zY := (y_Mo_neighbour, b_Mo_neighbour, 3, (some .int), 1, 0, 0)
theorem m_Mo_neighbour : zM i_Mo_neighbour 1 := ⟨ztb_of k_1132 rfl, ztb_of k_15 rfl, ⟨by decide, by decide⟩, by decide +kernel, by decide⟩
abbrev i_Mo_sizeTo : zY := (y_Mo_sizeTo, b_Mo_sizeTo, 2, (some .int), 2, 0, 0)
theorem m_Mo_sizeTo : zM i_Mo_sizeTo 1 := ⟨ztb_of k_1136 rfl, ztb_of k_15 rfl, ⟨by decide, by decide⟩, by decide +kernel, by decide⟩
abbrev i_Mo_outKind : zY := (y_Mo_outKind, b_Mo_outKind, 2, (some .int), 1, 0, 0)
theorem m_Mo_outKind : zM i_Mo_outKind 1 := ⟨ztb_of k_1140 rfl, ztb_of k_15 rfl, ⟨by decide, by decide⟩, by decide +kernel, by decide⟩
abbrev i_Mo_noOut : zY := (y_Mo_noOut, b_Mo_noOut, 2, (some .boolean), 0, 0, 0)
theorem m_Mo_noOut : zM i_Mo_noOut 1 := ⟨ztb_of k_1144 rfl, ztb_of k_15 rfl, ⟨by decide, by decide⟩, by decide +kernel, by decide⟩
abbrev i_Mo_place : zY := (y_Mo_place, b_Mo_place, 2, (some .int), 0, 0, 0)
theorem m_Mo_place : zM i_Mo_place 1 := ⟨ztb_of k_1148 rfl, ztb_of k_15 rfl, ⟨by decide, by decide⟩, by decide +kernel, by decide⟩
abbrev i_Mo_outTo : zY := (y_Mo_outTo, b_Mo_outTo, 2, (some .int), 1, 0, 0)
theorem m_Mo_outTo : zM i_Mo_outTo 1 := ⟨ztb_of k_1152 rfl, ztb_of k_15 rfl, ⟨by decide, by decide⟩, by decide +kernel, by decide⟩
abbrev i_Mo_outX : zY := (y_Mo_outX, b_Mo_outX, 2, (some .int), 1, 0, 0)
theorem m_Mo_outX : zM i_Mo_outX 1 := ⟨ztb_of k_1156 rfl, ztb_of k_15 rfl, ⟨by decide, by decide⟩, by decide +kernel, by decide⟩
