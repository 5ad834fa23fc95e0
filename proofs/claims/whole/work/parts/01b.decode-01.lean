/-! decode rows: by a program -/
theorem d_Ho_init_0 : decode b_Ho_init 0 = .ok (.aload_n 0, 1) := by decide +kernel
theorem d_Ho_init_1 : decode b_Ho_init 1 = .ok (.invokespecial 1, 3) := by decide +kernel
theorem d_Ho_init_4 : decode b_Ho_init 4 = .ok (.aload_n 0, 1) := by decide +kernel
theorem d_Ho_init_5 : decode b_Ho_init 5 = .ok (.new 7, 3) := by decide +kernel
theorem d_Ho_init_8 : decode b_Ho_init 8 = .ok (.dup, 1) := by decide +kernel
theorem d_Ho_init_9 : decode b_Ho_init 9 = .ok (.invokespecial 9, 3) := by decide +kernel
theorem d_Ho_init_12 : decode b_Ho_init 12 = .ok (.putfield 10, 3) := by decide +kernel
theorem d_Ho_init_15 : decode b_Ho_init 15 = .ok (.aload_n 0, 1) := by decide +kernel
theorem d_Ho_init_16 : decode b_Ho_init 16 = .ok (.new 16, 3) := by decide +kernel
theorem d_Ho_init_19 : decode b_Ho_init 19 = .ok (.dup, 1) := by decide +kernel
theorem d_Ho_init_20 : decode b_Ho_init 20 = .ok (.invokespecial 18, 3) := by decide +kernel
theorem d_Ho_init_23 : decode b_Ho_init 23 = .ok (.putfield 19, 3) := by decide +kernel
theorem d_Ho_init_26 : decode b_Ho_init 26 = .ok (.aload_n 0, 1) := by decide +kernel
theorem d_Ho_init_27 : decode b_Ho_init 27 = .ok (.new 23, 3) := by decide +kernel
theorem d_Ho_init_30 : decode b_Ho_init 30 = .ok (.dup, 1) := by decide +kernel
theorem d_Ho_init_31 : decode b_Ho_init 31 = .ok (.invokespecial 25, 3) := by decide +kernel
theorem d_Ho_init_34 : decode b_Ho_init 34 = .ok (.putfield 26, 3) := by decide +kernel
theorem d_Ho_init_37 : decode b_Ho_init 37 = .ok (.aload_n 0, 1) := by decide +kernel
theorem d_Ho_init_38 : decode b_Ho_init 38 = .ok (.new 30, 3) := by decide +kernel
theorem d_Ho_init_41 : decode b_Ho_init 41 = .ok (.dup, 1) := by decide +kernel
theorem d_Ho_init_42 : decode b_Ho_init 42 = .ok (.iconst 3, 1) := by decide +kernel
theorem d_Ho_init_43 : decode b_Ho_init 43 = .ok (.invokespecial 32, 3) := by decide +kernel
theorem d_Ho_init_46 : decode b_Ho_init 46 = .ok (.putfield 35, 3) := by decide +kernel
theorem d_Ho_init_49 : decode b_Ho_init 49 = .ok (.aload_n 0, 1) := by decide +kernel
theorem d_Ho_init_50 : decode b_Ho_init 50 = .ok (.new 30, 3) := by decide +kernel
theorem d_Ho_init_53 : decode b_Ho_init 53 = .ok (.dup, 1) := by decide +kernel
theorem d_Ho_init_54 : decode b_Ho_init 54 = .ok (.iconst 4, 1) := by decide +kernel
theorem d_Ho_init_55 : decode b_Ho_init 55 = .ok (.invokespecial 32, 3) := by decide +kernel
theorem d_Ho_init_58 : decode b_Ho_init 58 = .ok (.putfield 39, 3) := by decide +kernel
theorem d_Ho_init_61 : decode b_Ho_init 61 = .ok (.aload_n 0, 1) := by decide +kernel
theorem d_Ho_init_62 : decode b_Ho_init 62 = .ok (.new 30, 3) := by decide +kernel
theorem d_Ho_init_65 : decode b_Ho_init 65 = .ok (.dup, 1) := by decide +kernel
theorem d_Ho_init_66 : decode b_Ho_init 66 = .ok (.iconst 4, 1) := by decide +kernel
theorem d_Ho_init_67 : decode b_Ho_init 67 = .ok (.invokespecial 32, 3) := by decide +kernel
theorem d_Ho_init_70 : decode b_Ho_init 70 = .ok (.putfield 42, 3) := by decide +kernel
theorem d_Ho_init_73 : decode b_Ho_init 73 = .ok (.aload_n 0, 1) := by decide +kernel
theorem d_Ho_init_74 : decode b_Ho_init 74 = .ok (.new 45, 3) := by decide +kernel
theorem d_Ho_init_77 : decode b_Ho_init 77 = .ok (.dup, 1) := by decide +kernel
theorem d_Ho_init_78 : decode b_Ho_init 78 = .ok (.invokespecial 47, 3) := by decide +kernel
theorem d_Ho_init_81 : decode b_Ho_init 81 = .ok (.putfield 48, 3) := by decide +kernel
theorem d_Ho_init_84 : decode b_Ho_init 84 = .ok (.aload_n 0, 1) := by decide +kernel
theorem d_Ho_init_85 : decode b_Ho_init 85 = .ok (.iconst 0, 1) := by decide +kernel
theorem d_Ho_init_86 : decode b_Ho_init 86 = .ok (.putfield 52, 3) := by decide +kernel
theorem d_Ho_init_89 : decode b_Ho_init 89 = .ok (.aload_n 0, 1) := by decide +kernel
theorem d_Ho_init_90 : decode b_Ho_init 90 = .ok (.bipush 40, 2) := by decide +kernel
theorem d_Ho_init_92 : decode b_Ho_init 92 = .ok (.putfield 56, 3) := by decide +kernel
theorem d_Ho_init_95 : decode b_Ho_init 95 = .ok (.aload_n 0, 1) := by decide +kernel
theorem d_Ho_init_96 : decode b_Ho_init 96 = .ok (.iconst 0, 1) := by decide +kernel
theorem d_Ho_init_97 : decode b_Ho_init 97 = .ok (.putfield 59, 3) := by decide +kernel
theorem d_Ho_init_100 : decode b_Ho_init 100 = .ok (.aload_n 0, 1) := by decide +kernel
theorem d_Ho_init_101 : decode b_Ho_init 101 = .ok (.iconst 0, 1) := by decide +kernel
theorem d_Ho_init_102 : decode b_Ho_init 102 = .ok (.putfield 62, 3) := by decide +kernel
theorem d_Ho_init_105 : decode b_Ho_init 105 = .ok (.aload_n 0, 1) := by decide +kernel
theorem d_Ho_init_106 : decode b_Ho_init 106 = .ok (.iconst 3, 1) := by decide +kernel
theorem d_Ho_init_107 : decode b_Ho_init 107 = .ok (.putfield 65, 3) := by decide +kernel
theorem d_Ho_init_110 : decode b_Ho_init 110 = .ok (.aload_n 0, 1) := by decide +kernel
theorem d_Ho_init_111 : decode b_Ho_init 111 = .ok (.iconst 0, 1) := by decide +kernel
theorem d_Ho_init_112 : decode b_Ho_init 112 = .ok (.putfield 68, 3) := by decide +kernel
theorem d_Ho_init_115 : decode b_Ho_init 115 = .ok (.aload_n 0, 1) := by decide +kernel
theorem d_Ho_init_116 : decode b_Ho_init 116 = .ok (.iconst 1, 1) := by decide +kernel
theorem d_Ho_init_117 : decode b_Ho_init 117 = .ok (.sipush 254, 3) := by decide +kernel
theorem d_Ho_init_120 : decode b_Ho_init 120 = .ok (.iload_n 1, 1) := by decide +kernel
theorem d_Ho_init_121 : decode b_Ho_init 121 = .ok (.invokestatic 72, 3) := by decide +kernel
theorem d_Ho_init_124 : decode b_Ho_init 124 = .ok (.invokestatic 78, 3) := by decide +kernel
theorem d_Ho_init_127 : decode b_Ho_init 127 = .ok (.putfield 81, 3) := by decide +kernel
theorem d_Ho_init_130 : decode b_Ho_init 130 = .ok (.aload_n 0, 1) := by decide +kernel
theorem d_Ho_init_131 : decode b_Ho_init 131 = .ok (.iconst 1, 1) := by decide +kernel
theorem d_Ho_init_132 : decode b_Ho_init 132 = .ok (.ldc 84, 2) := by decide +kernel
theorem d_Ho_init_134 : decode b_Ho_init 134 = .ok (.ldc 84, 2) := by decide +kernel
theorem d_Ho_init_136 : decode b_Ho_init 136 = .ok (.invokevirtual 85, 3) := by decide +kernel
theorem d_Ho_init_139 : decode b_Ho_init 139 = .ok (.return_, 1) := by decide +kernel
theorem d_Oj_init_0 : decode b_Oj_init 0 = .ok (.return_, 1) := by decide +kernel
theorem d_Ou_init_0 : decode b_Ou_init 0 = .ok (.aload_n 0, 1) := by decide +kernel
theorem d_Ou_init_1 : decode b_Ou_init 1 = .ok (.invokespecial 3, 3) := by decide +kernel
theorem d_Ou_init_4 : decode b_Ou_init 4 = .ok (.aload_n 0, 1) := by decide +kernel
theorem d_Ou_init_5 : decode b_Ou_init 5 = .ok (.bipush 12, 2) := by decide +kernel
theorem d_Ou_init_7 : decode b_Ou_init 7 = .ok (.newarray .int, 2) := by decide +kernel
theorem d_Ou_init_9 : decode b_Ou_init 9 = .ok (.putfield 9, 3) := by decide +kernel
theorem d_Ou_init_12 : decode b_Ou_init 12 = .ok (.aload_n 0, 1) := by decide +kernel
theorem d_Ou_init_13 : decode b_Ou_init 13 = .ok (.bipush 12, 2) := by decide +kernel
theorem d_Ou_init_15 : decode b_Ou_init 15 = .ok (.newarray .int, 2) := by decide +kernel
theorem d_Ou_init_17 : decode b_Ou_init 17 = .ok (.putfield 15, 3) := by decide +kernel
theorem d_Ou_init_20 : decode b_Ou_init 20 = .ok (.aload_n 0, 1) := by decide +kernel
theorem d_Ou_init_21 : decode b_Ou_init 21 = .ok (.bipush 12, 2) := by decide +kernel
theorem d_Ou_init_23 : decode b_Ou_init 23 = .ok (.newarray .int, 2) := by decide +kernel
theorem d_Ou_init_25 : decode b_Ou_init 25 = .ok (.putfield 18, 3) := by decide +kernel
theorem d_Ou_init_28 : decode b_Ou_init 28 = .ok (.aload_n 0, 1) := by decide +kernel
theorem d_Ou_init_29 : decode b_Ou_init 29 = .ok (.iconst 0, 1) := by decide +kernel
theorem d_Ou_init_30 : decode b_Ou_init 30 = .ok (.putfield 21, 3) := by decide +kernel
theorem d_Ou_init_33 : decode b_Ou_init 33 = .ok (.aload_n 0, 1) := by decide +kernel
theorem d_Ou_init_34 : decode b_Ou_init 34 = .ok (.iconst 0, 1) := by decide +kernel
theorem d_Ou_init_35 : decode b_Ou_init 35 = .ok (.putfield 25, 3) := by decide +kernel
theorem d_Ou_init_38 : decode b_Ou_init 38 = .ok (.aload_n 0, 1) := by decide +kernel
theorem d_Ou_init_39 : decode b_Ou_init 39 = .ok (.iconst 0, 1) := by decide +kernel
theorem d_Ou_init_40 : decode b_Ou_init 40 = .ok (.putfield 28, 3) := by decide +kernel
theorem d_Ou_init_43 : decode b_Ou_init 43 = .ok (.return_, 1) := by decide +kernel
theorem d_Or_init_0 : decode b_Or_init 0 = .ok (.aload_n 0, 1) := by decide +kernel
theorem d_Or_init_1 : decode b_Or_init 1 = .ok (.invokespecial 1, 3) := by decide +kernel
theorem d_Or_init_4 : decode b_Or_init 4 = .ok (.aload_n 0, 1) := by decide +kernel
theorem d_Or_init_5 : decode b_Or_init 5 = .ok (.new 7, 3) := by decide +kernel
theorem d_Or_init_8 : decode b_Or_init 8 = .ok (.dup, 1) := by decide +kernel
theorem d_Or_init_9 : decode b_Or_init 9 = .ok (.invokespecial 9, 3) := by decide +kernel
theorem d_Or_init_12 : decode b_Or_init 12 = .ok (.putfield 10, 3) := by decide +kernel
theorem d_Or_init_15 : decode b_Or_init 15 = .ok (.return_, 1) := by decide +kernel
theorem d_Al_init_0 : decode b_Al_init 0 = .ok (.aload_n 0, 1) := by decide +kernel
theorem d_Al_init_1 : decode b_Al_init 1 = .ok (.invokespecial 1, 3) := by decide +kernel
theorem d_Al_init_4 : decode b_Al_init 4 = .ok (.aload_n 0, 1) := by decide +kernel
theorem d_Al_init_5 : decode b_Al_init 5 = .ok (.getstatic 39, 3) := by decide +kernel
theorem d_Al_init_8 : decode b_Al_init 8 = .ok (.putfield 9, 3) := by decide +kernel
theorem d_Al_init_11 : decode b_Al_init 11 = .ok (.return_, 1) := by decide +kernel
theorem d_Ab_init_0 : decode b_Ab_init 0 = .ok (.aload_n 0, 1) := by decide +kernel
theorem d_Ab_init_1 : decode b_Ab_init 1 = .ok (.invokespecial 1, 3) := by decide +kernel
theorem d_Ab_init_4 : decode b_Ab_init 4 = .ok (.aload_n 0, 1) := by decide +kernel
theorem d_Ab_init_5 : decode b_Ab_init 5 = .ok (.iconst 0, 1) := by decide +kernel
theorem d_Ab_init_6 : decode b_Ab_init 6 = .ok (.putfield 7, 3) := by decide +kernel
theorem d_Ab_init_9 : decode b_Ab_init 9 = .ok (.return_, 1) := by decide +kernel
theorem d_Ac_init_0 : decode b_Ac_init 0 = .ok (.aload_n 0, 1) := by decide +kernel
theorem d_Ac_init_1 : decode b_Ac_init 1 = .ok (.invokespecial 1, 3) := by decide +kernel
theorem d_Ac_init_4 : decode b_Ac_init 4 = .ok (.return_, 1) := by decide +kernel
theorem d_Nr_init_0 : decode b_Nr_init 0 = .ok (.aload_n 0, 1) := by decide +kernel
theorem d_Nr_init_1 : decode b_Nr_init 1 = .ok (.invokespecial 3, 3) := by decide +kernel
theorem d_Nr_init_4 : decode b_Nr_init 4 = .ok (.aload_n 0, 1) := by decide +kernel
theorem d_Nr_init_5 : decode b_Nr_init 5 = .ok (.new 9, 3) := by decide +kernel
theorem d_Nr_init_8 : decode b_Nr_init 8 = .ok (.dup, 1) := by decide +kernel
theorem d_Nr_init_9 : decode b_Nr_init 9 = .ok (.invokespecial 11, 3) := by decide +kernel
theorem d_Nr_init_12 : decode b_Nr_init 12 = .ok (.putfield 12, 3) := by decide +kernel
theorem d_Nr_init_15 : decode b_Nr_init 15 = .ok (.return_, 1) := by decide +kernel
theorem d_Tr_init_0 : decode b_Tr_init 0 = .ok (.aload_n 0, 1) := by decide +kernel
theorem d_Tr_init_1 : decode b_Tr_init 1 = .ok (.invokespecial 1, 3) := by decide +kernel
theorem d_Tr_init_4 : decode b_Tr_init 4 = .ok (.aload_n 0, 1) := by decide +kernel
theorem d_Tr_init_5 : decode b_Tr_init 5 = .ok (.new 7, 3) := by decide +kernel
theorem d_Tr_init_8 : decode b_Tr_init 8 = .ok (.dup, 1) := by decide +kernel
theorem d_Tr_init_9 : decode b_Tr_init 9 = .ok (.invokespecial 9, 3) := by decide +kernel
theorem d_Tr_init_12 : decode b_Tr_init 12 = .ok (.putfield 10, 3) := by decide +kernel
theorem d_Tr_init_15 : decode b_Tr_init 15 = .ok (.aload_n 0, 1) := by decide +kernel
theorem d_Tr_init_16 : decode b_Tr_init 16 = .ok (.iload_n 1, 1) := by decide +kernel
theorem d_Tr_init_17 : decode b_Tr_init 17 = .ok (.putfield 16, 3) := by decide +kernel
theorem d_Tr_init_20 : decode b_Tr_init 20 = .ok (.return_, 1) := by decide +kernel
theorem d_Hd_init_0 : decode b_Hd_init 0 = .ok (.aload_n 0, 1) := by decide +kernel
theorem d_Hd_init_1 : decode b_Hd_init 1 = .ok (.invokespecial 3, 3) := by decide +kernel
theorem d_Hd_init_4 : decode b_Hd_init 4 = .ok (.aload_n 0, 1) := by decide +kernel
theorem d_Hd_init_5 : decode b_Hd_init 5 = .ok (.bipush 6, 2) := by decide +kernel
theorem d_Hd_init_7 : decode b_Hd_init 7 = .ok (.newarray .int, 2) := by decide +kernel
theorem d_Hd_init_9 : decode b_Hd_init 9 = .ok (.putfield 9, 3) := by decide +kernel
theorem d_Hd_init_12 : decode b_Hd_init 12 = .ok (.aload_n 0, 1) := by decide +kernel
theorem d_Hd_init_13 : decode b_Hd_init 13 = .ok (.bipush 6, 2) := by decide +kernel
theorem d_Hd_init_15 : decode b_Hd_init 15 = .ok (.newarray .int, 2) := by decide +kernel
theorem d_Hd_init_17 : decode b_Hd_init 17 = .ok (.putfield 15, 3) := by decide +kernel
theorem d_Hd_init_20 : decode b_Hd_init 20 = .ok (.aload_n 0, 1) := by decide +kernel
theorem d_Hd_init_21 : decode b_Hd_init 21 = .ok (.iconst 0, 1) := by decide +kernel
theorem d_Hd_init_22 : decode b_Hd_init 22 = .ok (.putfield 18, 3) := by decide +kernel
theorem d_Hd_init_25 : decode b_Hd_init 25 = .ok (.return_, 1) := by decide +kernel
theorem d_Ma_min_0 : decode b_Ma_min 0 = .ok (.iload_n 0, 1) := by decide +kernel
theorem d_Ma_min_1 : decode b_Ma_min 1 = .ok (.iload_n 1, 1) := by decide +kernel
theorem d_Ma_min_2 : decode b_Ma_min 2 = .ok (.if_icmp .gt 7, 3) := by decide +kernel
theorem d_Ma_min_5 : decode b_Ma_min 5 = .ok (.iload_n 0, 1) := by decide +kernel
theorem d_Ma_min_6 : decode b_Ma_min 6 = .ok (.goto 4, 3) := by decide +kernel
theorem d_Ma_min_9 : decode b_Ma_min 9 = .ok (.iload_n 1, 1) := by decide +kernel
theorem d_Ma_min_10 : decode b_Ma_min 10 = .ok (.ireturn, 1) := by decide +kernel
theorem d_Ma_max_0 : decode b_Ma_max 0 = .ok (.iload_n 0, 1) := by decide +kernel
theorem d_Ma_max_1 : decode b_Ma_max 1 = .ok (.iload_n 1, 1) := by decide +kernel
theorem d_Ma_max_2 : decode b_Ma_max 2 = .ok (.if_icmp .lt 7, 3) := by decide +kernel
theorem d_Ma_max_5 : decode b_Ma_max 5 = .ok (.iload_n 0, 1) := by decide +kernel
theorem d_Ma_max_6 : decode b_Ma_max 6 = .ok (.goto 4, 3) := by decide +kernel
theorem d_Ma_max_9 : decode b_Ma_max 9 = .ok (.iload_n 1, 1) := by decide +kernel
theorem d_Ma_max_10 : decode b_Ma_max 10 = .ok (.ireturn, 1) := by decide +kernel
theorem d_Ho_form_0 : decode b_Ho_form 0 = .ok (.new 147, 3) := by decide +kernel
theorem d_Ho_form_3 : decode b_Ho_form 3 = .ok (.dup, 1) := by decide +kernel
theorem d_Ho_form_4 : decode b_Ho_form 4 = .ok (.iload_n 1, 1) := by decide +kernel
theorem d_Ho_form_5 : decode b_Ho_form 5 = .ok (.aload_n 0, 1) := by decide +kernel
theorem d_Ho_form_6 : decode b_Ho_form 6 = .ok (.getfield 81, 3) := by decide +kernel
theorem d_Ho_form_9 : decode b_Ho_form 9 = .ok (.invokestatic 110, 3) := by decide +kernel
theorem d_Ho_form_12 : decode b_Ho_form 12 = .ok (.aload_n 0, 1) := by decide +kernel
theorem d_Ho_form_13 : decode b_Ho_form 13 = .ok (.getfield 52, 3) := by decide +kernel
theorem d_Ho_form_16 : decode b_Ho_form 16 = .ok (.invokespecial 317, 3) := by decide +kernel
theorem d_Ho_form_19 : decode b_Ho_form 19 = .ok (.astore 4, 2) := by decide +kernel
theorem d_Ho_form_21 : decode b_Ho_form 21 = .ok (.aload 4, 2) := by decide +kernel
theorem d_Ho_form_23 : decode b_Ho_form 23 = .ok (.iload_n 2, 1) := by decide +kernel
theorem d_Ho_form_24 : decode b_Ho_form 24 = .ok (.putfield 233, 3) := by decide +kernel
theorem d_Ho_form_27 : decode b_Ho_form 27 = .ok (.aload 4, 2) := by decide +kernel
theorem d_Ho_form_29 : decode b_Ho_form 29 = .ok (.iload_n 3, 1) := by decide +kernel
theorem d_Ho_form_30 : decode b_Ho_form 30 = .ok (.putfield 296, 3) := by decide +kernel
theorem d_Ho_form_33 : decode b_Ho_form 33 = .ok (.aload_n 0, 1) := by decide +kernel
theorem d_Ho_form_34 : decode b_Ho_form 34 = .ok (.getfield 19, 3) := by decide +kernel
theorem d_Ho_form_37 : decode b_Ho_form 37 = .ok (.aload 4, 2) := by decide +kernel
theorem d_Ho_form_39 : decode b_Ho_form 39 = .ok (.invokevirtual 319, 3) := by decide +kernel
theorem d_Ho_form_42 : decode b_Ho_form 42 = .ok (.aload_n 0, 1) := by decide +kernel
theorem d_Ho_form_43 : decode b_Ho_form 43 = .ok (.aload 4, 2) := by decide +kernel
theorem d_Ho_form_45 : decode b_Ho_form 45 = .ok (.invokevirtual 302, 3) := by decide +kernel
theorem d_Ho_form_48 : decode b_Ho_form 48 = .ok (.return_, 1) := by decide +kernel
theorem d_Ho_addressOf_0 : decode b_Ho_addressOf 0 = .ok (.sipush 256, 3) := by decide +kernel
theorem d_Ho_addressOf_3 : decode b_Ho_addressOf 3 = .ok (.iload_n 0, 1) := by decide +kernel
theorem d_Ho_addressOf_4 : decode b_Ho_addressOf 4 = .ok (.imul, 1) := by decide +kernel
theorem d_Ho_addressOf_5 : decode b_Ho_addressOf 5 = .ok (.iload_n 1, 1) := by decide +kernel
theorem d_Ho_addressOf_6 : decode b_Ho_addressOf 6 = .ok (.iadd, 1) := by decide +kernel
theorem d_Ho_addressOf_7 : decode b_Ho_addressOf 7 = .ok (.ireturn, 1) := by decide +kernel
theorem d_Oa_init_0 : decode b_Oa_init 0 = .ok (.aload_n 0, 1) := by decide +kernel
theorem d_Oa_init_1 : decode b_Oa_init 1 = .ok (.invokespecial 3, 3) := by decide +kernel
theorem d_Oa_init_4 : decode b_Oa_init 4 = .ok (.aload_n 0, 1) := by decide +kernel
theorem d_Oa_init_5 : decode b_Oa_init 5 = .ok (.iconst 1, 1) := by decide +kernel
theorem d_Oa_init_6 : decode b_Oa_init 6 = .ok (.putfield 9, 3) := by decide +kernel
theorem d_Oa_init_9 : decode b_Oa_init 9 = .ok (.aload_n 0, 1) := by decide +kernel
theorem d_Oa_init_10 : decode b_Oa_init 10 = .ok (.ldc 15, 2) := by decide +kernel
theorem d_Oa_init_12 : decode b_Oa_init 12 = .ok (.putfield 16, 3) := by decide +kernel
theorem d_Oa_init_15 : decode b_Oa_init 15 = .ok (.aload_n 0, 1) := by decide +kernel
theorem d_Oa_init_16 : decode b_Oa_init 16 = .ok (.ldc 15, 2) := by decide +kernel
theorem d_Oa_init_18 : decode b_Oa_init 18 = .ok (.putfield 19, 3) := by decide +kernel
theorem d_Oa_init_21 : decode b_Oa_init 21 = .ok (.aload_n 0, 1) := by decide +kernel
theorem d_Oa_init_22 : decode b_Oa_init 22 = .ok (.iload_n 1, 1) := by decide +kernel
theorem d_Oa_init_23 : decode b_Oa_init 23 = .ok (.putfield 22, 3) := by decide +kernel
theorem d_Oa_init_26 : decode b_Oa_init 26 = .ok (.aload_n 0, 1) := by decide +kernel
theorem d_Oa_init_27 : decode b_Oa_init 27 = .ok (.iload_n 2, 1) := by decide +kernel
theorem d_Oa_init_28 : decode b_Oa_init 28 = .ok (.putfield 25, 3) := by decide +kernel
theorem d_Oa_init_31 : decode b_Oa_init 31 = .ok (.return_, 1) := by decide +kernel
theorem d_Or_add_0 : decode b_Or_add 0 = .ok (.aload_n 0, 1) := by decide +kernel
theorem d_Or_add_1 : decode b_Or_add 1 = .ok (.getfield 10, 3) := by decide +kernel
theorem d_Or_add_4 : decode b_Or_add 4 = .ok (.aload_n 1, 1) := by decide +kernel
theorem d_Or_add_5 : decode b_Or_add 5 = .ok (.invokevirtual 26, 3) := by decide +kernel
theorem d_Or_add_8 : decode b_Or_add 8 = .ok (.pop, 1) := by decide +kernel
theorem d_Or_add_9 : decode b_Or_add 9 = .ok (.return_, 1) := by decide +kernel
theorem d_Al_add_0 : decode b_Al_add 0 = .ok (.aload_n 0, 1) := by decide +kernel
theorem d_Al_add_1 : decode b_Al_add 1 = .ok (.dup, 1) := by decide +kernel
theorem d_Al_add_2 : decode b_Al_add 2 = .ok (.getfield 63, 3) := by decide +kernel
theorem d_Al_add_5 : decode b_Al_add 5 = .ok (.iconst 1, 1) := by decide +kernel
theorem d_Al_add_6 : decode b_Al_add 6 = .ok (.iadd, 1) := by decide +kernel
theorem d_Al_add_7 : decode b_Al_add 7 = .ok (.putfield 63, 3) := by decide +kernel
theorem d_Al_add_10 : decode b_Al_add 10 = .ok (.aload_n 0, 1) := by decide +kernel
theorem d_Al_add_11 : decode b_Al_add 11 = .ok (.aload_n 1, 1) := by decide +kernel
theorem d_Al_add_12 : decode b_Al_add 12 = .ok (.aload_n 0, 1) := by decide +kernel
theorem d_Al_add_13 : decode b_Al_add 13 = .ok (.getfield 9, 3) := by decide +kernel
theorem d_Al_add_16 : decode b_Al_add 16 = .ok (.aload_n 0, 1) := by decide +kernel
theorem d_Al_add_17 : decode b_Al_add 17 = .ok (.getfield 48, 3) := by decide +kernel
theorem d_Al_add_20 : decode b_Al_add 20 = .ok (.invokevirtual 131, 3) := by decide +kernel
theorem d_Al_add_23 : decode b_Al_add 23 = .ok (.iconst 1, 1) := by decide +kernel
theorem d_Al_add_24 : decode b_Al_add 24 = .ok (.ireturn, 1) := by decide +kernel
theorem d_Al_add_2_0 : decode b_Al_add_2 0 = .ok (.iload_n 3, 1) := by decide +kernel
theorem d_Al_add_2_1 : decode b_Al_add_2 1 = .ok (.aload_n 2, 1) := by decide +kernel
theorem d_Al_add_2_2 : decode b_Al_add_2 2 = .ok (.arraylength, 1) := by decide +kernel
theorem d_Al_add_2_3 : decode b_Al_add_2 3 = .ok (.if_icmp .ne 8, 3) := by decide +kernel
theorem d_Al_add_2_6 : decode b_Al_add_2 6 = .ok (.aload_n 0, 1) := by decide +kernel
theorem d_Al_add_2_7 : decode b_Al_add_2 7 = .ok (.invokevirtual 129, 3) := by decide +kernel
theorem d_Al_add_2_10 : decode b_Al_add_2 10 = .ok (.astore_n 2, 1) := by decide +kernel
theorem d_Al_add_2_11 : decode b_Al_add_2 11 = .ok (.aload_n 2, 1) := by decide +kernel
theorem d_Al_add_2_12 : decode b_Al_add_2 12 = .ok (.iload_n 3, 1) := by decide +kernel
theorem d_Al_add_2_13 : decode b_Al_add_2 13 = .ok (.aload_n 1, 1) := by decide +kernel
theorem d_Al_add_2_14 : decode b_Al_add_2 14 = .ok (.aastore, 1) := by decide +kernel
theorem d_Al_add_2_15 : decode b_Al_add_2 15 = .ok (.aload_n 0, 1) := by decide +kernel
theorem d_Al_add_2_16 : decode b_Al_add_2 16 = .ok (.iload_n 3, 1) := by decide +kernel
theorem d_Al_add_2_17 : decode b_Al_add_2 17 = .ok (.iconst 1, 1) := by decide +kernel
theorem d_Al_add_2_18 : decode b_Al_add_2 18 = .ok (.iadd, 1) := by decide +kernel
theorem d_Al_add_2_19 : decode b_Al_add_2 19 = .ok (.putfield 48, 3) := by decide +kernel
theorem d_Al_add_2_22 : decode b_Al_add_2 22 = .ok (.return_, 1) := by decide +kernel
theorem d_Al_grow_0 : decode b_Al_grow 0 = .ok (.aload_n 0, 1) := by decide +kernel
theorem d_Al_grow_1 : decode b_Al_grow 1 = .ok (.aload_n 0, 1) := by decide +kernel
theorem d_Al_grow_2 : decode b_Al_grow 2 = .ok (.getfield 48, 3) := by decide +kernel
theorem d_Al_grow_5 : decode b_Al_grow 5 = .ok (.iconst 1, 1) := by decide +kernel
theorem d_Al_grow_6 : decode b_Al_grow 6 = .ok (.iadd, 1) := by decide +kernel
theorem d_Al_grow_7 : decode b_Al_grow 7 = .ok (.invokevirtual 69, 3) := by decide +kernel
theorem d_Al_grow_10 : decode b_Al_grow 10 = .ok (.areturn, 1) := by decide +kernel
theorem d_Al_grow_2_0 : decode b_Al_grow_2 0 = .ok (.aload_n 0, 1) := by decide +kernel
theorem d_Al_grow_2_1 : decode b_Al_grow_2 1 = .ok (.getfield 9, 3) := by decide +kernel
theorem d_Al_grow_2_4 : decode b_Al_grow_2 4 = .ok (.arraylength, 1) := by decide +kernel
theorem d_Al_grow_2_5 : decode b_Al_grow_2 5 = .ok (.istore_n 2, 1) := by decide +kernel
theorem d_Al_grow_2_6 : decode b_Al_grow_2 6 = .ok (.iload_n 2, 1) := by decide +kernel
theorem d_Al_grow_2_7 : decode b_Al_grow_2 7 = .ok (.ifCond .gt 13, 3) := by decide +kernel
theorem d_Al_grow_2_10 : decode b_Al_grow_2 10 = .ok (.aload_n 0, 1) := by decide +kernel
theorem d_Al_grow_2_11 : decode b_Al_grow_2 11 = .ok (.getfield 9, 3) := by decide +kernel
theorem d_Al_grow_2_14 : decode b_Al_grow_2 14 = .ok (.getstatic 39, 3) := by decide +kernel
theorem d_Al_grow_2_17 : decode b_Al_grow_2 17 = .ok (.if_acmp .eq 28, 3) := by decide +kernel
theorem d_Al_grow_2_20 : decode b_Al_grow_2 20 = .ok (.iload_n 2, 1) := by decide +kernel
theorem d_Al_grow_2_21 : decode b_Al_grow_2 21 = .ok (.iload_n 1, 1) := by decide +kernel
theorem d_Al_grow_2_22 : decode b_Al_grow_2 22 = .ok (.iload_n 2, 1) := by decide +kernel
theorem d_Al_grow_2_23 : decode b_Al_grow_2 23 = .ok (.isub, 1) := by decide +kernel
theorem d_Al_grow_2_24 : decode b_Al_grow_2 24 = .ok (.iload_n 2, 1) := by decide +kernel
theorem d_Al_grow_2_25 : decode b_Al_grow_2 25 = .ok (.iconst 1, 1) := by decide +kernel
theorem d_Al_grow_2_26 : decode b_Al_grow_2 26 = .ok (.ishr, 1) := by decide +kernel
theorem d_Al_grow_2_27 : decode b_Al_grow_2 27 = .ok (.invokestatic 73, 3) := by decide +kernel
theorem d_Al_grow_2_30 : decode b_Al_grow_2 30 = .ok (.istore_n 3, 1) := by decide +kernel
theorem d_Al_grow_2_31 : decode b_Al_grow_2 31 = .ok (.aload_n 0, 1) := by decide +kernel
theorem d_Al_grow_2_32 : decode b_Al_grow_2 32 = .ok (.aload_n 0, 1) := by decide +kernel
theorem d_Al_grow_2_33 : decode b_Al_grow_2 33 = .ok (.getfield 9, 3) := by decide +kernel
theorem d_Al_grow_2_36 : decode b_Al_grow_2 36 = .ok (.iload_n 3, 1) := by decide +kernel
theorem d_Al_grow_2_37 : decode b_Al_grow_2 37 = .ok (.invokestatic 66, 3) := by decide +kernel
theorem d_Al_grow_2_40 : decode b_Al_grow_2 40 = .ok (.dup_x1, 1) := by decide +kernel
theorem d_Al_grow_2_41 : decode b_Al_grow_2 41 = .ok (.putfield 9, 3) := by decide +kernel
theorem d_Al_grow_2_44 : decode b_Al_grow_2 44 = .ok (.areturn, 1) := by decide +kernel
theorem d_Al_grow_2_45 : decode b_Al_grow_2 45 = .ok (.aload_n 0, 1) := by decide +kernel
theorem d_Al_grow_2_46 : decode b_Al_grow_2 46 = .ok (.bipush 10, 2) := by decide +kernel
theorem d_Al_grow_2_48 : decode b_Al_grow_2 48 = .ok (.iload_n 1, 1) := by decide +kernel
theorem d_Al_grow_2_49 : decode b_Al_grow_2 49 = .ok (.invokestatic 79, 3) := by decide +kernel
theorem d_Al_grow_2_52 : decode b_Al_grow_2 52 = .ok (.anewarray 7, 3) := by decide +kernel
theorem d_Al_grow_2_55 : decode b_Al_grow_2 55 = .ok (.dup_x1, 1) := by decide +kernel
theorem d_Al_grow_2_56 : decode b_Al_grow_2 56 = .ok (.putfield 9, 3) := by decide +kernel
theorem d_Al_grow_2_59 : decode b_Al_grow_2 59 = .ok (.areturn, 1) := by decide +kernel
theorem d_Ar_copyOf_0 : decode b_Ar_copyOf 0 = .ok (.aload_n 0, 1) := by decide +kernel
theorem d_Ar_copyOf_1 : decode b_Ar_copyOf 1 = .ok (.iload_n 1, 1) := by decide +kernel
theorem d_Ar_copyOf_2 : decode b_Ar_copyOf 2 = .ok (.aload_n 0, 1) := by decide +kernel
theorem d_Ar_copyOf_3 : decode b_Ar_copyOf 3 = .ok (.invokevirtual 86, 3) := by decide +kernel
theorem d_Ar_copyOf_6 : decode b_Ar_copyOf 6 = .ok (.invokestatic 300, 3) := by decide +kernel
theorem d_Ar_copyOf_9 : decode b_Ar_copyOf 9 = .ok (.areturn, 1) := by decide +kernel
theorem d_Ar_copyOf_2_0 : decode b_Ar_copyOf_2 0 = .ok (.aload_n 2, 1) := by decide +kernel
theorem d_Ar_copyOf_2_1 : decode b_Ar_copyOf_2 1 = .ok (.ldc 110, 2) := by decide +kernel
theorem d_Ar_copyOf_2_3 : decode b_Ar_copyOf_2 3 = .ok (.if_acmp .ne 10, 3) := by decide +kernel
theorem d_Ar_copyOf_2_6 : decode b_Ar_copyOf_2 6 = .ok (.iload_n 1, 1) := by decide +kernel
theorem d_Ar_copyOf_2_7 : decode b_Ar_copyOf_2 7 = .ok (.anewarray 2, 3) := by decide +kernel
theorem d_Ar_copyOf_2_10 : decode b_Ar_copyOf_2 10 = .ok (.goto 14, 3) := by decide +kernel
theorem d_Ar_copyOf_2_13 : decode b_Ar_copyOf_2 13 = .ok (.aload_n 2, 1) := by decide +kernel
theorem d_Ar_copyOf_2_14 : decode b_Ar_copyOf_2 14 = .ok (.invokevirtual 90, 3) := by decide +kernel
theorem d_Ar_copyOf_2_17 : decode b_Ar_copyOf_2 17 = .ok (.iload_n 1, 1) := by decide +kernel
theorem d_Ar_copyOf_2_18 : decode b_Ar_copyOf_2 18 = .ok (.invokestatic 95, 3) := by decide +kernel
theorem d_Ar_copyOf_2_21 : decode b_Ar_copyOf_2 21 = .ok (.checkcast 110, 3) := by decide +kernel
theorem d_Ar_copyOf_2_24 : decode b_Ar_copyOf_2 24 = .ok (.astore_n 3, 1) := by decide +kernel
theorem d_Ar_copyOf_2_25 : decode b_Ar_copyOf_2 25 = .ok (.aload_n 0, 1) := by decide +kernel
theorem d_Ar_copyOf_2_26 : decode b_Ar_copyOf_2 26 = .ok (.iconst 0, 1) := by decide +kernel
theorem d_Ar_copyOf_2_27 : decode b_Ar_copyOf_2 27 = .ok (.aload_n 3, 1) := by decide +kernel
theorem d_Ar_copyOf_2_28 : decode b_Ar_copyOf_2 28 = .ok (.iconst 0, 1) := by decide +kernel
theorem d_Ar_copyOf_2_29 : decode b_Ar_copyOf_2 29 = .ok (.aload_n 0, 1) := by decide +kernel
theorem d_Ar_copyOf_2_30 : decode b_Ar_copyOf_2 30 = .ok (.arraylength, 1) := by decide +kernel
theorem d_Ar_copyOf_2_31 : decode b_Ar_copyOf_2 31 = .ok (.iload_n 1, 1) := by decide +kernel
theorem d_Ar_copyOf_2_32 : decode b_Ar_copyOf_2 32 = .ok (.invokestatic 304, 3) := by decide +kernel
theorem d_Ar_copyOf_2_35 : decode b_Ar_copyOf_2 35 = .ok (.invokestatic 150, 3) := by decide +kernel
theorem d_Ar_copyOf_2_38 : decode b_Ar_copyOf_2 38 = .ok (.aload_n 3, 1) := by decide +kernel
theorem d_Ar_copyOf_2_39 : decode b_Ar_copyOf_2 39 = .ok (.areturn, 1) := by decide +kernel
theorem d_Ho_probe_0 : decode b_Ho_probe 0 = .ok (.aload_n 0, 1) := by decide +kernel
theorem d_Ho_probe_1 : decode b_Ho_probe 1 = .ok (.getfield 10, 3) := by decide +kernel
theorem d_Ho_probe_4 : decode b_Ho_probe 4 = .ok (.iconst 1, 1) := by decide +kernel
theorem d_Ho_probe_5 : decode b_Ho_probe 5 = .ok (.ldc 152, 2) := by decide +kernel
theorem d_Ho_probe_7 : decode b_Ho_probe 7 = .ok (.aload_n 1, 1) := by decide +kernel
theorem d_Ho_probe_8 : decode b_Ho_probe 8 = .ok (.getfield 229, 3) := by decide +kernel
theorem d_Ho_probe_11 : decode b_Ho_probe 11 = .ok (.invokevirtual 153, 3) := by decide +kernel
theorem d_Ho_probe_14 : decode b_Ho_probe 14 = .ok (.return_, 1) := by decide +kernel
theorem d_Ou_add_0 : decode b_Ou_add 0 = .ok (.aload_n 0, 1) := by decide +kernel
theorem d_Ou_add_1 : decode b_Ou_add 1 = .ok (.getfield 9, 3) := by decide +kernel
theorem d_Ou_add_4 : decode b_Ou_add 4 = .ok (.aload_n 0, 1) := by decide +kernel
theorem d_Ou_add_5 : decode b_Ou_add 5 = .ok (.getfield 21, 3) := by decide +kernel
theorem d_Ou_add_8 : decode b_Ou_add 8 = .ok (.iload_n 1, 1) := by decide +kernel
theorem d_Ou_add_9 : decode b_Ou_add 9 = .ok (.iastore, 1) := by decide +kernel
theorem d_Ou_add_10 : decode b_Ou_add 10 = .ok (.aload_n 0, 1) := by decide +kernel
theorem d_Ou_add_11 : decode b_Ou_add 11 = .ok (.getfield 15, 3) := by decide +kernel
theorem d_Ou_add_14 : decode b_Ou_add 14 = .ok (.aload_n 0, 1) := by decide +kernel
theorem d_Ou_add_15 : decode b_Ou_add 15 = .ok (.getfield 21, 3) := by decide +kernel
theorem d_Ou_add_18 : decode b_Ou_add 18 = .ok (.iload_n 2, 1) := by decide +kernel
theorem d_Ou_add_19 : decode b_Ou_add 19 = .ok (.iastore, 1) := by decide +kernel
theorem d_Ou_add_20 : decode b_Ou_add 20 = .ok (.aload_n 0, 1) := by decide +kernel
theorem d_Ou_add_21 : decode b_Ou_add 21 = .ok (.getfield 18, 3) := by decide +kernel
theorem d_Ou_add_24 : decode b_Ou_add 24 = .ok (.aload_n 0, 1) := by decide +kernel
theorem d_Ou_add_25 : decode b_Ou_add 25 = .ok (.getfield 21, 3) := by decide +kernel
theorem d_Ou_add_28 : decode b_Ou_add 28 = .ok (.iload_n 3, 1) := by decide +kernel
theorem d_Ou_add_29 : decode b_Ou_add 29 = .ok (.iastore, 1) := by decide +kernel
theorem d_Ou_add_30 : decode b_Ou_add 30 = .ok (.aload_n 0, 1) := by decide +kernel
theorem d_Ou_add_31 : decode b_Ou_add 31 = .ok (.aload_n 0, 1) := by decide +kernel
theorem d_Ou_add_32 : decode b_Ou_add 32 = .ok (.getfield 21, 3) := by decide +kernel
theorem d_Ou_add_35 : decode b_Ou_add 35 = .ok (.iconst 1, 1) := by decide +kernel
theorem d_Ou_add_36 : decode b_Ou_add 36 = .ok (.iadd, 1) := by decide +kernel
theorem d_Ou_add_37 : decode b_Ou_add 37 = .ok (.bipush 12, 2) := by decide +kernel
theorem d_Ou_add_39 : decode b_Ou_add 39 = .ok (.irem, 1) := by decide +kernel
theorem d_Ou_add_40 : decode b_Ou_add 40 = .ok (.putfield 21, 3) := by decide +kernel
theorem d_Ou_add_43 : decode b_Ou_add 43 = .ok (.aload_n 0, 1) := by decide +kernel
theorem d_Ou_add_44 : decode b_Ou_add 44 = .ok (.aload_n 0, 1) := by decide +kernel
theorem d_Ou_add_45 : decode b_Ou_add 45 = .ok (.getfield 25, 3) := by decide +kernel
theorem d_Ou_add_48 : decode b_Ou_add 48 = .ok (.iconst 1, 1) := by decide +kernel
theorem d_Ou_add_49 : decode b_Ou_add 49 = .ok (.iadd, 1) := by decide +kernel
theorem d_Ou_add_50 : decode b_Ou_add 50 = .ok (.bipush 12, 2) := by decide +kernel
theorem d_Ou_add_52 : decode b_Ou_add 52 = .ok (.invokestatic 31, 3) := by decide +kernel
theorem d_Ou_add_55 : decode b_Ou_add 55 = .ok (.putfield 25, 3) := by decide +kernel
theorem d_Ou_add_58 : decode b_Ou_add 58 = .ok (.aload_n 0, 1) := by decide +kernel
theorem d_Ou_add_59 : decode b_Ou_add 59 = .ok (.dup, 1) := by decide +kernel
theorem d_Ou_add_60 : decode b_Ou_add 60 = .ok (.getfield 28, 3) := by decide +kernel
theorem d_Ou_add_63 : decode b_Ou_add 63 = .ok (.iconst 1, 1) := by decide +kernel
theorem d_Ou_add_64 : decode b_Ou_add 64 = .ok (.iadd, 1) := by decide +kernel
theorem d_Ou_add_65 : decode b_Ou_add 65 = .ok (.putfield 28, 3) := by decide +kernel
theorem d_Ou_add_68 : decode b_Ou_add 68 = .ok (.return_, 1) := by decide +kernel
theorem d_Ho_neighbour_0 : decode b_Ho_neighbour 0 = .ok (.aload_n 0, 1) := by decide +kernel
theorem d_Ho_neighbour_1 : decode b_Ho_neighbour 1 = .ok (.getfield 26, 3) := by decide +kernel
theorem d_Ho_neighbour_4 : decode b_Ho_neighbour 4 = .ok (.iload_n 1, 1) := by decide +kernel
theorem d_Ho_neighbour_5 : decode b_Ho_neighbour 5 = .ok (.invokevirtual 163, 3) := by decide +kernel
theorem d_Ho_neighbour_8 : decode b_Ho_neighbour 8 = .ok (.astore_n 2, 1) := by decide +kernel
theorem d_Ho_neighbour_9 : decode b_Ho_neighbour 9 = .ok (.aload_n 2, 1) := by decide +kernel
theorem d_Ho_neighbour_10 : decode b_Ho_neighbour 10 = .ok (.ifnonnull 5, 3) := by decide +kernel
theorem d_Ho_neighbour_13 : decode b_Ho_neighbour 13 = .ok (.iconst 0, 1) := by decide +kernel
theorem d_Ho_neighbour_14 : decode b_Ho_neighbour 14 = .ok (.ireturn, 1) := by decide +kernel
theorem d_Ho_neighbour_15 : decode b_Ho_neighbour 15 = .ok (.aload_n 2, 1) := by decide +kernel
theorem d_Ho_neighbour_16 : decode b_Ho_neighbour 16 = .ok (.getfield 236, 3) := by decide +kernel
theorem d_Ho_neighbour_19 : decode b_Ho_neighbour 19 = .ok (.bipush 8, 2) := by decide +kernel
theorem d_Ho_neighbour_21 : decode b_Ho_neighbour 21 = .ok (.aload_n 2, 1) := by decide +kernel
theorem d_Ho_neighbour_22 : decode b_Ho_neighbour 22 = .ok (.getfield 237, 3) := by decide +kernel
theorem d_Ho_neighbour_25 : decode b_Ho_neighbour 25 = .ok (.imul, 1) := by decide +kernel
theorem d_Ho_neighbour_26 : decode b_Ho_neighbour 26 = .ok (.iadd, 1) := by decide +kernel
theorem d_Ho_neighbour_27 : decode b_Ho_neighbour 27 = .ok (.aload_n 2, 1) := by decide +kernel
theorem d_Ho_neighbour_28 : decode b_Ho_neighbour 28 = .ok (.getfield 117, 3) := by decide +kernel
theorem d_Ho_neighbour_31 : decode b_Ho_neighbour 31 = .ok (.ifCond .eq 9, 3) := by decide +kernel
theorem d_Ho_neighbour_34 : decode b_Ho_neighbour 34 = .ok (.sipush 1024, 3) := by decide +kernel
theorem d_Ho_neighbour_37 : decode b_Ho_neighbour 37 = .ok (.goto 4, 3) := by decide +kernel
theorem d_Ho_neighbour_40 : decode b_Ho_neighbour 40 = .ok (.iconst 0, 1) := by decide +kernel
theorem d_Ho_neighbour_41 : decode b_Ho_neighbour 41 = .ok (.iadd, 1) := by decide +kernel
theorem d_Ho_neighbour_42 : decode b_Ho_neighbour 42 = .ok (.aload_n 2, 1) := by decide +kernel
theorem d_Ho_neighbour_43 : decode b_Ho_neighbour 43 = .ok (.invokevirtual 240, 3) := by decide +kernel
theorem d_Ho_neighbour_46 : decode b_Ho_neighbour 46 = .ok (.ifCond .eq 9, 3) := by decide +kernel
theorem d_Ho_neighbour_49 : decode b_Ho_neighbour 49 = .ok (.sipush 2048, 3) := by decide +kernel
theorem d_Ho_neighbour_52 : decode b_Ho_neighbour 52 = .ok (.goto 4, 3) := by decide +kernel
theorem d_Ho_neighbour_55 : decode b_Ho_neighbour 55 = .ok (.iconst 0, 1) := by decide +kernel
theorem d_Ho_neighbour_56 : decode b_Ho_neighbour 56 = .ok (.iadd, 1) := by decide +kernel
theorem d_Ho_neighbour_57 : decode b_Ho_neighbour 57 = .ok (.ireturn, 1) := by decide +kernel
theorem d_Nr_find_0 : decode b_Nr_find 0 = .ok (.iconst 0, 1) := by decide +kernel
theorem d_Nr_find_1 : decode b_Nr_find 1 = .ok (.istore_n 2, 1) := by decide +kernel
theorem d_Nr_find_2 : decode b_Nr_find 2 = .ok (.iload_n 2, 1) := by decide +kernel
theorem d_Nr_find_3 : decode b_Nr_find 3 = .ok (.aload_n 0, 1) := by decide +kernel
theorem d_Nr_find_4 : decode b_Nr_find 4 = .ok (.getfield 12, 3) := by decide +kernel
theorem d_Nr_find_7 : decode b_Nr_find 7 = .ok (.invokevirtual 18, 3) := by decide +kernel
theorem d_Nr_find_10 : decode b_Nr_find 10 = .ok (.if_icmp .ge 39, 3) := by decide +kernel
theorem d_Nr_find_13 : decode b_Nr_find 13 = .ok (.aload_n 0, 1) := by decide +kernel
theorem d_Nr_find_14 : decode b_Nr_find 14 = .ok (.getfield 12, 3) := by decide +kernel
theorem d_Nr_find_17 : decode b_Nr_find 17 = .ok (.iload_n 2, 1) := by decide +kernel
theorem d_Nr_find_18 : decode b_Nr_find 18 = .ok (.invokevirtual 22, 3) := by decide +kernel
theorem d_Nr_find_21 : decode b_Nr_find 21 = .ok (.checkcast 26, 3) := by decide +kernel
theorem d_Nr_find_24 : decode b_Nr_find 24 = .ok (.getfield 35, 3) := by decide +kernel
theorem d_Nr_find_27 : decode b_Nr_find 27 = .ok (.iload_n 1, 1) := by decide +kernel
theorem d_Nr_find_28 : decode b_Nr_find 28 = .ok (.if_icmp .ne 15, 3) := by decide +kernel
theorem d_Nr_find_31 : decode b_Nr_find 31 = .ok (.aload_n 0, 1) := by decide +kernel
theorem d_Nr_find_32 : decode b_Nr_find 32 = .ok (.getfield 12, 3) := by decide +kernel
theorem d_Nr_find_35 : decode b_Nr_find 35 = .ok (.iload_n 2, 1) := by decide +kernel
theorem d_Nr_find_36 : decode b_Nr_find 36 = .ok (.invokevirtual 22, 3) := by decide +kernel
theorem d_Nr_find_39 : decode b_Nr_find 39 = .ok (.checkcast 26, 3) := by decide +kernel
theorem d_Nr_find_42 : decode b_Nr_find 42 = .ok (.areturn, 1) := by decide +kernel
theorem d_Nr_find_43 : decode b_Nr_find 43 = .ok (.iinc 2 1, 3) := by decide +kernel
theorem d_Nr_find_46 : decode b_Nr_find 46 = .ok (.goto (-44), 3) := by decide +kernel
theorem d_Nr_find_49 : decode b_Nr_find 49 = .ok (.aconst_null, 1) := by decide +kernel
theorem d_Nr_find_50 : decode b_Nr_find 50 = .ok (.areturn, 1) := by decide +kernel
theorem d_Al_size_0 : decode b_Al_size 0 = .ok (.aload_n 0, 1) := by decide +kernel
theorem d_Al_size_1 : decode b_Al_size 1 = .ok (.getfield 48, 3) := by decide +kernel
theorem d_Al_size_4 : decode b_Al_size 4 = .ok (.ireturn, 1) := by decide +kernel
theorem d_Al_get_0 : decode b_Al_get 0 = .ok (.iload_n 1, 1) := by decide +kernel
theorem d_Al_get_1 : decode b_Al_get 1 = .ok (.aload_n 0, 1) := by decide +kernel
theorem d_Al_get_2 : decode b_Al_get 2 = .ok (.getfield 48, 3) := by decide +kernel
theorem d_Al_get_5 : decode b_Al_get 5 = .ok (.invokestatic 118, 3) := by decide +kernel
theorem d_Al_get_8 : decode b_Al_get 8 = .ok (.pop, 1) := by decide +kernel
theorem d_Al_get_9 : decode b_Al_get 9 = .ok (.aload_n 0, 1) := by decide +kernel
theorem d_Al_get_10 : decode b_Al_get 10 = .ok (.iload_n 1, 1) := by decide +kernel
theorem d_Al_get_11 : decode b_Al_get 11 = .ok (.invokevirtual 123, 3) := by decide +kernel
theorem d_Al_get_14 : decode b_Al_get 14 = .ok (.areturn, 1) := by decide +kernel
theorem d_Ob_checkIndex_0 : decode b_Ob_checkIndex 0 = .ok (.iload_n 0, 1) := by decide +kernel
theorem d_Ob_checkIndex_1 : decode b_Ob_checkIndex 1 = .ok (.iload_n 1, 1) := by decide +kernel
theorem d_Ob_checkIndex_2 : decode b_Ob_checkIndex 2 = .ok (.aconst_null, 1) := by decide +kernel
theorem d_Ob_checkIndex_3 : decode b_Ob_checkIndex 3 = .ok (.invokestatic 105, 3) := by decide +kernel
theorem d_Ob_checkIndex_6 : decode b_Ob_checkIndex 6 = .ok (.ireturn, 1) := by decide +kernel
theorem d_Pc_checkIndex_0 : decode b_Pc_checkIndex 0 = .ok (.iload_n 0, 1) := by decide +kernel
theorem d_Pc_checkIndex_1 : decode b_Pc_checkIndex 1 = .ok (.ifCond .lt 8, 3) := by decide +kernel
theorem d_Pc_checkIndex_4 : decode b_Pc_checkIndex 4 = .ok (.iload_n 0, 1) := by decide +kernel
theorem d_Pc_checkIndex_5 : decode b_Pc_checkIndex 5 = .ok (.iload_n 1, 1) := by decide +kernel
theorem d_Pc_checkIndex_6 : decode b_Pc_checkIndex 6 = .ok (.if_icmp .lt 10, 3) := by decide +kernel
theorem d_Pc_checkIndex_9 : decode b_Pc_checkIndex 9 = .ok (.aload_n 2, 1) := by decide +kernel
theorem d_Pc_checkIndex_10 : decode b_Pc_checkIndex 10 = .ok (.iload_n 0, 1) := by decide +kernel
theorem d_Pc_checkIndex_11 : decode b_Pc_checkIndex 11 = .ok (.iload_n 1, 1) := by decide +kernel
theorem d_Pc_checkIndex_12 : decode b_Pc_checkIndex 12 = .ok (.invokestatic 95, 3) := by decide +kernel
theorem d_Pc_checkIndex_15 : decode b_Pc_checkIndex 15 = .ok (.athrow, 1) := by decide +kernel
theorem d_Pc_checkIndex_16 : decode b_Pc_checkIndex 16 = .ok (.iload_n 0, 1) := by decide +kernel
theorem d_Pc_checkIndex_17 : decode b_Pc_checkIndex 17 = .ok (.ireturn, 1) := by decide +kernel
theorem d_Al_elementData_0 : decode b_Al_elementData 0 = .ok (.aload_n 0, 1) := by decide +kernel
theorem d_Al_elementData_1 : decode b_Al_elementData 1 = .ok (.getfield 9, 3) := by decide +kernel
theorem d_Al_elementData_4 : decode b_Al_elementData 4 = .ok (.iload_n 1, 1) := by decide +kernel
theorem d_Al_elementData_5 : decode b_Al_elementData 5 = .ok (.aaload, 1) := by decide +kernel
theorem d_Al_elementData_6 : decode b_Al_elementData 6 = .ok (.areturn, 1) := by decide +kernel
theorem d_Ne_hasWaiting_0 : decode b_Ne_hasWaiting 0 = .ok (.aload_n 0, 1) := by decide +kernel
theorem d_Ne_hasWaiting_1 : decode b_Ne_hasWaiting 1 = .ok (.getfield 15, 3) := by decide +kernel
theorem d_Ne_hasWaiting_4 : decode b_Ne_hasWaiting 4 = .ok (.ifCond .eq 7, 3) := by decide +kernel
theorem d_Ne_hasWaiting_7 : decode b_Ne_hasWaiting 7 = .ok (.iconst 1, 1) := by decide +kernel
theorem d_Ne_hasWaiting_8 : decode b_Ne_hasWaiting 8 = .ok (.goto 4, 3) := by decide +kernel
theorem d_Ne_hasWaiting_11 : decode b_Ne_hasWaiting 11 = .ok (.iconst 0, 1) := by decide +kernel
theorem d_Ne_hasWaiting_12 : decode b_Ne_hasWaiting 12 = .ok (.ireturn, 1) := by decide +kernel
theorem d_Ho_sizeTo_0 : decode b_Ho_sizeTo 0 = .ok (.aload_n 0, 1) := by decide +kernel
theorem d_Ho_sizeTo_1 : decode b_Ho_sizeTo 1 = .ok (.getfield 42, 3) := by decide +kernel
theorem d_Ho_sizeTo_4 : decode b_Ho_sizeTo 4 = .ok (.iload_n 1, 1) := by decide +kernel
theorem d_Ho_sizeTo_5 : decode b_Ho_sizeTo 5 = .ok (.invokevirtual 243, 3) := by decide +kernel
theorem d_Ho_sizeTo_8 : decode b_Ho_sizeTo 8 = .ok (.astore_n 2, 1) := by decide +kernel
theorem d_Ho_sizeTo_9 : decode b_Ho_sizeTo 9 = .ok (.aload_n 2, 1) := by decide +kernel
theorem d_Ho_sizeTo_10 : decode b_Ho_sizeTo 10 = .ok (.ifnonnull 10, 3) := by decide +kernel
theorem d_Ho_sizeTo_13 : decode b_Ho_sizeTo 13 = .ok (.aload_n 0, 1) := by decide +kernel
theorem d_Ho_sizeTo_14 : decode b_Ho_sizeTo 14 = .ok (.getfield 56, 3) := by decide +kernel
theorem d_Ho_sizeTo_17 : decode b_Ho_sizeTo 17 = .ok (.goto 14, 3) := by decide +kernel
theorem d_Ho_sizeTo_20 : decode b_Ho_sizeTo 20 = .ok (.aload_n 2, 1) := by decide +kernel
theorem d_Ho_sizeTo_21 : decode b_Ho_sizeTo 21 = .ok (.getfield 246, 3) := by decide +kernel
theorem d_Ho_sizeTo_24 : decode b_Ho_sizeTo 24 = .ok (.aload_n 0, 1) := by decide +kernel
theorem d_Ho_sizeTo_25 : decode b_Ho_sizeTo 25 = .ok (.getfield 56, 3) := by decide +kernel
theorem d_Ho_sizeTo_28 : decode b_Ho_sizeTo 28 = .ok (.invokestatic 72, 3) := by decide +kernel
theorem d_Ho_sizeTo_31 : decode b_Ho_sizeTo 31 = .ok (.ireturn, 1) := by decide +kernel
theorem d_Tr_find_0 : decode b_Tr_find 0 = .ok (.iconst 0, 1) := by decide +kernel
theorem d_Tr_find_1 : decode b_Tr_find 1 = .ok (.istore_n 2, 1) := by decide +kernel
theorem d_Tr_find_2 : decode b_Tr_find 2 = .ok (.iload_n 2, 1) := by decide +kernel
theorem d_Tr_find_3 : decode b_Tr_find 3 = .ok (.aload_n 0, 1) := by decide +kernel
theorem d_Tr_find_4 : decode b_Tr_find 4 = .ok (.getfield 10, 3) := by decide +kernel
theorem d_Tr_find_7 : decode b_Tr_find 7 = .ok (.invokevirtual 20, 3) := by decide +kernel
theorem d_Tr_find_10 : decode b_Tr_find 10 = .ok (.if_icmp .ge 39, 3) := by decide +kernel
theorem d_Tr_find_13 : decode b_Tr_find 13 = .ok (.aload_n 0, 1) := by decide +kernel
theorem d_Tr_find_14 : decode b_Tr_find 14 = .ok (.getfield 10, 3) := by decide +kernel
theorem d_Tr_find_17 : decode b_Tr_find 17 = .ok (.iload_n 2, 1) := by decide +kernel
theorem d_Tr_find_18 : decode b_Tr_find 18 = .ok (.invokevirtual 24, 3) := by decide +kernel
theorem d_Tr_find_21 : decode b_Tr_find 21 = .ok (.checkcast 28, 3) := by decide +kernel
theorem d_Tr_find_24 : decode b_Tr_find 24 = .ok (.getfield 30, 3) := by decide +kernel
theorem d_Tr_find_27 : decode b_Tr_find 27 = .ok (.iload_n 1, 1) := by decide +kernel
theorem d_Tr_find_28 : decode b_Tr_find 28 = .ok (.if_icmp .ne 15, 3) := by decide +kernel
theorem d_Tr_find_31 : decode b_Tr_find 31 = .ok (.aload_n 0, 1) := by decide +kernel
theorem d_Tr_find_32 : decode b_Tr_find 32 = .ok (.getfield 10, 3) := by decide +kernel
theorem d_Tr_find_35 : decode b_Tr_find 35 = .ok (.iload_n 2, 1) := by decide +kernel
theorem d_Tr_find_36 : decode b_Tr_find 36 = .ok (.invokevirtual 24, 3) := by decide +kernel
theorem d_Tr_find_39 : decode b_Tr_find 39 = .ok (.checkcast 28, 3) := by decide +kernel
theorem d_Tr_find_42 : decode b_Tr_find 42 = .ok (.areturn, 1) := by decide +kernel
theorem d_Tr_find_43 : decode b_Tr_find 43 = .ok (.iinc 2 1, 3) := by decide +kernel
theorem d_Tr_find_46 : decode b_Tr_find 46 = .ok (.goto (-44), 3) := by decide +kernel
theorem d_Tr_find_49 : decode b_Tr_find 49 = .ok (.aconst_null, 1) := by decide +kernel
theorem d_Tr_find_50 : decode b_Tr_find 50 = .ok (.areturn, 1) := by decide +kernel
theorem d_La_cell_0 : decode b_La_cell 0 = .ok (.iload_n 1, 1) := by decide +kernel
theorem d_La_cell_1 : decode b_La_cell 1 = .ok (.aload_n 0, 1) := by decide +kernel
theorem d_La_cell_2 : decode b_La_cell 2 = .ok (.arraylength, 1) := by decide +kernel
theorem d_La_cell_3 : decode b_La_cell 3 = .ok (.if_icmp .ge 9, 3) := by decide +kernel
theorem d_La_cell_6 : decode b_La_cell 6 = .ok (.aload_n 0, 1) := by decide +kernel
theorem d_La_cell_7 : decode b_La_cell 7 = .ok (.iload_n 1, 1) := by decide +kernel
theorem d_La_cell_8 : decode b_La_cell 8 = .ok (.iaload, 1) := by decide +kernel
theorem d_La_cell_9 : decode b_La_cell 9 = .ok (.goto 4, 3) := by decide +kernel
theorem d_La_cell_12 : decode b_La_cell 12 = .ok (.iconst 0, 1) := by decide +kernel
theorem d_La_cell_13 : decode b_La_cell 13 = .ok (.ireturn, 1) := by decide +kernel
theorem d_La_tick_0 : decode b_La_tick 0 = .ok (.aload_n 0, 1) := by decide +kernel
theorem d_La_tick_1 : decode b_La_tick 1 = .ok (.iload_n 1, 1) := by decide +kernel
theorem d_La_tick_2 : decode b_La_tick 2 = .ok (.invokevirtual 7, 3) := by decide +kernel
theorem d_La_tick_5 : decode b_La_tick 5 = .ok (.goto 6, 3) := by decide +kernel
theorem d_La_tick_8 : decode b_La_tick 8 = .ok (.astore_n 2, 1) := by decide +kernel
theorem d_La_tick_9 : decode b_La_tick 9 = .ok (.iconst 1, 1) := by decide +kernel
theorem d_La_tick_10 : decode b_La_tick 10 = .ok (.ireturn, 1) := by decide +kernel
theorem d_La_tick_11 : decode b_La_tick 11 = .ok (.iconst 0, 1) := by decide +kernel
theorem d_La_tick_12 : decode b_La_tick 12 = .ok (.ireturn, 1) := by decide +kernel
theorem d_Ho_tick_0 : decode b_Ho_tick 0 = .ok (.iload_n 1, 1) := by decide +kernel
theorem d_Ho_tick_1 : decode b_Ho_tick 1 = .ok (.iconst 1, 1) := by decide +kernel
theorem d_Ho_tick_2 : decode b_Ho_tick 2 = .ok (.bipush 100, 2) := by decide +kernel
theorem d_Ho_tick_4 : decode b_Ho_tick 4 = .ok (.invokestatic 89, 3) := by decide +kernel
theorem d_Ho_tick_7 : decode b_Ho_tick 7 = .ok (.invokestatic 93, 3) := by decide +kernel
theorem d_Ho_tick_10 : decode b_Ho_tick 10 = .ok (.iconst 0, 1) := by decide +kernel
theorem d_Ho_tick_11 : decode b_Ho_tick 11 = .ok (.istore_n 2, 1) := by decide +kernel
theorem d_Ho_tick_12 : decode b_Ho_tick 12 = .ok (.iload_n 2, 1) := by decide +kernel
theorem d_Ho_tick_13 : decode b_Ho_tick 13 = .ok (.iload_n 1, 1) := by decide +kernel
theorem d_Ho_tick_14 : decode b_Ho_tick 14 = .ok (.if_icmp .ge 30, 3) := by decide +kernel
theorem d_Ho_tick_17 : decode b_Ho_tick 17 = .ok (.aload_n 0, 1) := by decide +kernel
theorem d_Ho_tick_18 : decode b_Ho_tick 18 = .ok (.dup, 1) := by decide +kernel
theorem d_Ho_tick_19 : decode b_Ho_tick 19 = .ok (.getfield 52, 3) := by decide +kernel
theorem d_Ho_tick_22 : decode b_Ho_tick 22 = .ok (.iconst 1, 1) := by decide +kernel
theorem d_Ho_tick_23 : decode b_Ho_tick 23 = .ok (.iadd, 1) := by decide +kernel
theorem d_Ho_tick_24 : decode b_Ho_tick 24 = .ok (.putfield 52, 3) := by decide +kernel
theorem d_Ho_tick_27 : decode b_Ho_tick 27 = .ok (.aload_n 0, 1) := by decide +kernel
theorem d_Ho_tick_28 : decode b_Ho_tick 28 = .ok (.getfield 68, 3) := by decide +kernel
theorem d_Ho_tick_31 : decode b_Ho_tick 31 = .ok (.ifCond .ne 7, 3) := by decide +kernel
theorem d_Ho_tick_34 : decode b_Ho_tick 34 = .ok (.aload_n 0, 1) := by decide +kernel
theorem d_Ho_tick_35 : decode b_Ho_tick 35 = .ok (.invokevirtual 97, 3) := by decide +kernel
theorem d_Ho_tick_38 : decode b_Ho_tick 38 = .ok (.iinc 2 1, 3) := by decide +kernel
theorem d_Ho_tick_41 : decode b_Ho_tick 41 = .ok (.goto (-29), 3) := by decide +kernel
theorem d_Ho_tick_44 : decode b_Ho_tick 44 = .ok (.return_, 1) := by decide +kernel
theorem d_Ho_isWithin_0 : decode b_Ho_isWithin 0 = .ok (.iload_n 0, 1) := by decide +kernel
theorem d_Ho_isWithin_1 : decode b_Ho_isWithin 1 = .ok (.iload_n 1, 1) := by decide +kernel
theorem d_Ho_isWithin_2 : decode b_Ho_isWithin 2 = .ok (.if_icmp .lt 12, 3) := by decide +kernel
theorem d_Ho_isWithin_5 : decode b_Ho_isWithin 5 = .ok (.iload_n 0, 1) := by decide +kernel
theorem d_Ho_isWithin_6 : decode b_Ho_isWithin 6 = .ok (.iload_n 2, 1) := by decide +kernel
theorem d_Ho_isWithin_7 : decode b_Ho_isWithin 7 = .ok (.if_icmp .gt 7, 3) := by decide +kernel
theorem d_Ho_isWithin_10 : decode b_Ho_isWithin 10 = .ok (.iconst 1, 1) := by decide +kernel
theorem d_Ho_isWithin_11 : decode b_Ho_isWithin 11 = .ok (.goto 4, 3) := by decide +kernel
theorem d_Ho_isWithin_14 : decode b_Ho_isWithin 14 = .ok (.iconst 0, 1) := by decide +kernel
theorem d_Ho_isWithin_15 : decode b_Ho_isWithin 15 = .ok (.ireturn, 1) := by decide +kernel
theorem d_Ho_requireArguments_0 : decode b_Ho_requireArguments 0 = .ok (.iload_n 0, 1) := by decide +kernel
theorem d_Ho_requireArguments_1 : decode b_Ho_requireArguments 1 = .ok (.ifCond .ne 14, 3) := by decide +kernel
theorem d_Ho_requireArguments_4 : decode b_Ho_requireArguments 4 = .ok (.new 265, 3) := by decide +kernel
theorem d_Ho_requireArguments_7 : decode b_Ho_requireArguments 7 = .ok (.dup, 1) := by decide +kernel
theorem d_Ho_requireArguments_8 : decode b_Ho_requireArguments 8 = .ok (.ldc_w 267, 3) := by decide +kernel
theorem d_Ho_requireArguments_11 : decode b_Ho_requireArguments 11 = .ok (.invokespecial 269, 3) := by decide +kernel
theorem d_Ho_requireArguments_14 : decode b_Ho_requireArguments 14 = .ok (.athrow, 1) := by decide +kernel
theorem d_Ho_requireArguments_15 : decode b_Ho_requireArguments 15 = .ok (.return_, 1) := by decide +kernel
theorem d_Ho_doWhatIsDue_0 : decode b_Ho_doWhatIsDue 0 = .ok (.aload_n 0, 1) := by decide +kernel
theorem d_Ho_doWhatIsDue_1 : decode b_Ho_doWhatIsDue 1 = .ok (.getfield 19, 3) := by decide +kernel
theorem d_Ho_doWhatIsDue_4 : decode b_Ho_doWhatIsDue 4 = .ok (.aload_n 0, 1) := by decide +kernel
theorem d_Ho_doWhatIsDue_5 : decode b_Ho_doWhatIsDue 5 = .ok (.getfield 52, 3) := by decide +kernel
theorem d_Ho_doWhatIsDue_8 : decode b_Ho_doWhatIsDue 8 = .ok (.invokevirtual 280, 3) := by decide +kernel
theorem d_Ho_doWhatIsDue_11 : decode b_Ho_doWhatIsDue 11 = .ok (.iconst 0, 1) := by decide +kernel
theorem d_Ho_doWhatIsDue_12 : decode b_Ho_doWhatIsDue 12 = .ok (.istore_n 1, 1) := by decide +kernel
theorem d_Ho_doWhatIsDue_13 : decode b_Ho_doWhatIsDue 13 = .ok (.iload_n 1, 1) := by decide +kernel
theorem d_Ho_doWhatIsDue_14 : decode b_Ho_doWhatIsDue 14 = .ok (.aload_n 0, 1) := by decide +kernel
theorem d_Ho_doWhatIsDue_15 : decode b_Ho_doWhatIsDue 15 = .ok (.getfield 19, 3) := by decide +kernel
theorem d_Ho_doWhatIsDue_18 : decode b_Ho_doWhatIsDue 18 = .ok (.invokevirtual 215, 3) := by decide +kernel
theorem d_Ho_doWhatIsDue_21 : decode b_Ho_doWhatIsDue 21 = .ok (.if_icmp .ge 21, 3) := by decide +kernel
theorem d_Ho_doWhatIsDue_24 : decode b_Ho_doWhatIsDue 24 = .ok (.aload_n 0, 1) := by decide +kernel
theorem d_Ho_doWhatIsDue_25 : decode b_Ho_doWhatIsDue 25 = .ok (.aload_n 0, 1) := by decide +kernel
theorem d_Ho_doWhatIsDue_26 : decode b_Ho_doWhatIsDue 26 = .ok (.getfield 19, 3) := by decide +kernel
theorem d_Ho_doWhatIsDue_29 : decode b_Ho_doWhatIsDue 29 = .ok (.iload_n 1, 1) := by decide +kernel
theorem d_Ho_doWhatIsDue_30 : decode b_Ho_doWhatIsDue 30 = .ok (.invokevirtual 226, 3) := by decide +kernel
theorem d_Ho_doWhatIsDue_33 : decode b_Ho_doWhatIsDue 33 = .ok (.invokevirtual 283, 3) := by decide +kernel
theorem d_Ho_doWhatIsDue_36 : decode b_Ho_doWhatIsDue 36 = .ok (.iinc 1 1, 3) := by decide +kernel
theorem d_Ho_doWhatIsDue_39 : decode b_Ho_doWhatIsDue 39 = .ok (.goto (-26), 3) := by decide +kernel
theorem d_Ho_doWhatIsDue_42 : decode b_Ho_doWhatIsDue 42 = .ok (.iconst 0, 1) := by decide +kernel
theorem d_Ho_doWhatIsDue_43 : decode b_Ho_doWhatIsDue 43 = .ok (.istore_n 1, 1) := by decide +kernel
theorem d_Ho_doWhatIsDue_44 : decode b_Ho_doWhatIsDue 44 = .ok (.iload_n 1, 1) := by decide +kernel
theorem d_Ho_doWhatIsDue_45 : decode b_Ho_doWhatIsDue 45 = .ok (.aload_n 0, 1) := by decide +kernel
theorem d_Ho_doWhatIsDue_46 : decode b_Ho_doWhatIsDue 46 = .ok (.getfield 26, 3) := by decide +kernel
theorem d_Ho_doWhatIsDue_49 : decode b_Ho_doWhatIsDue 49 = .ok (.invokevirtual 219, 3) := by decide +kernel
theorem d_Ho_doWhatIsDue_52 : decode b_Ho_doWhatIsDue 52 = .ok (.if_icmp .ge 21, 3) := by decide +kernel
theorem d_Ho_doWhatIsDue_55 : decode b_Ho_doWhatIsDue 55 = .ok (.aload_n 0, 1) := by decide +kernel
theorem d_Ho_doWhatIsDue_56 : decode b_Ho_doWhatIsDue 56 = .ok (.aload_n 0, 1) := by decide +kernel
theorem d_Ho_doWhatIsDue_57 : decode b_Ho_doWhatIsDue 57 = .ok (.getfield 26, 3) := by decide +kernel
theorem d_Ho_doWhatIsDue_60 : decode b_Ho_doWhatIsDue 60 = .ok (.iload_n 1, 1) := by decide +kernel
theorem d_Ho_doWhatIsDue_61 : decode b_Ho_doWhatIsDue 61 = .ok (.invokevirtual 286, 3) := by decide +kernel
theorem d_Ho_doWhatIsDue_64 : decode b_Ho_doWhatIsDue 64 = .ok (.invokevirtual 288, 3) := by decide +kernel
theorem d_Ho_doWhatIsDue_67 : decode b_Ho_doWhatIsDue 67 = .ok (.iinc 1 1, 3) := by decide +kernel
theorem d_Ho_doWhatIsDue_70 : decode b_Ho_doWhatIsDue 70 = .ok (.goto (-26), 3) := by decide +kernel
theorem d_Ho_doWhatIsDue_73 : decode b_Ho_doWhatIsDue 73 = .ok (.aload_n 0, 1) := by decide +kernel
theorem d_Ho_doWhatIsDue_74 : decode b_Ho_doWhatIsDue 74 = .ok (.dup, 1) := by decide +kernel
theorem d_Ho_doWhatIsDue_75 : decode b_Ho_doWhatIsDue 75 = .ok (.getfield 59, 3) := by decide +kernel
theorem d_Ho_doWhatIsDue_78 : decode b_Ho_doWhatIsDue 78 = .ok (.aload_n 0, 1) := by decide +kernel
theorem d_Ho_doWhatIsDue_79 : decode b_Ho_doWhatIsDue 79 = .ok (.getfield 26, 3) := by decide +kernel
theorem d_Ho_doWhatIsDue_82 : decode b_Ho_doWhatIsDue 82 = .ok (.aload_n 0, 1) := by decide +kernel
theorem d_Ho_doWhatIsDue_83 : decode b_Ho_doWhatIsDue 83 = .ok (.getfield 52, 3) := by decide +kernel
theorem d_Ho_doWhatIsDue_86 : decode b_Ho_doWhatIsDue 86 = .ok (.invokevirtual 292, 3) := by decide +kernel
theorem d_Ho_doWhatIsDue_89 : decode b_Ho_doWhatIsDue 89 = .ok (.iadd, 1) := by decide +kernel
theorem d_Ho_doWhatIsDue_90 : decode b_Ho_doWhatIsDue 90 = .ok (.putfield 59, 3) := by decide +kernel
theorem d_Ho_doWhatIsDue_93 : decode b_Ho_doWhatIsDue 93 = .ok (.aload_n 0, 1) := by decide +kernel
theorem d_Ho_doWhatIsDue_94 : decode b_Ho_doWhatIsDue 94 = .ok (.getfield 35, 3) := by decide +kernel
theorem d_Ho_doWhatIsDue_97 : decode b_Ho_doWhatIsDue 97 = .ok (.aload_n 0, 1) := by decide +kernel
theorem d_Ho_doWhatIsDue_98 : decode b_Ho_doWhatIsDue 98 = .ok (.getfield 52, 3) := by decide +kernel
theorem d_Ho_doWhatIsDue_101 : decode b_Ho_doWhatIsDue 101 = .ok (.invokevirtual 295, 3) := by decide +kernel
theorem d_Ho_doWhatIsDue_104 : decode b_Ho_doWhatIsDue 104 = .ok (.aload_n 0, 1) := by decide +kernel
theorem d_Ho_doWhatIsDue_105 : decode b_Ho_doWhatIsDue 105 = .ok (.getfield 39, 3) := by decide +kernel
theorem d_Ho_doWhatIsDue_108 : decode b_Ho_doWhatIsDue 108 = .ok (.aload_n 0, 1) := by decide +kernel
theorem d_Ho_doWhatIsDue_109 : decode b_Ho_doWhatIsDue 109 = .ok (.getfield 52, 3) := by decide +kernel
theorem d_Ho_doWhatIsDue_112 : decode b_Ho_doWhatIsDue 112 = .ok (.invokevirtual 295, 3) := by decide +kernel
theorem d_Ho_doWhatIsDue_115 : decode b_Ho_doWhatIsDue 115 = .ok (.aload_n 0, 1) := by decide +kernel
theorem d_Ho_doWhatIsDue_116 : decode b_Ho_doWhatIsDue 116 = .ok (.getfield 42, 3) := by decide +kernel
theorem d_Ho_doWhatIsDue_119 : decode b_Ho_doWhatIsDue 119 = .ok (.aload_n 0, 1) := by decide +kernel
theorem d_Ho_doWhatIsDue_120 : decode b_Ho_doWhatIsDue 120 = .ok (.getfield 52, 3) := by decide +kernel
theorem d_Ho_doWhatIsDue_123 : decode b_Ho_doWhatIsDue 123 = .ok (.invokevirtual 295, 3) := by decide +kernel
theorem d_Ho_doWhatIsDue_126 : decode b_Ho_doWhatIsDue 126 = .ok (.aload_n 0, 1) := by decide +kernel
theorem d_Ho_doWhatIsDue_127 : decode b_Ho_doWhatIsDue 127 = .ok (.getfield 52, 3) := by decide +kernel
theorem d_Ho_doWhatIsDue_130 : decode b_Ho_doWhatIsDue 130 = .ok (.iconst 4, 1) := by decide +kernel
theorem d_Ho_doWhatIsDue_131 : decode b_Ho_doWhatIsDue 131 = .ok (.irem, 1) := by decide +kernel
theorem d_Ho_doWhatIsDue_132 : decode b_Ho_doWhatIsDue 132 = .ok (.ifCond .ne 21, 3) := by decide +kernel
theorem d_Ho_doWhatIsDue_135 : decode b_Ho_doWhatIsDue 135 = .ok (.aload_n 0, 1) := by decide +kernel
theorem d_Ho_doWhatIsDue_136 : decode b_Ho_doWhatIsDue 136 = .ok (.getfield 65, 3) := by decide +kernel
theorem d_Ho_doWhatIsDue_139 : decode b_Ho_doWhatIsDue 139 = .ok (.iconst 3, 1) := by decide +kernel
theorem d_Ho_doWhatIsDue_140 : decode b_Ho_doWhatIsDue 140 = .ok (.if_icmp .ge 13, 3) := by decide +kernel
theorem d_Ho_doWhatIsDue_143 : decode b_Ho_doWhatIsDue 143 = .ok (.aload_n 0, 1) := by decide +kernel
theorem d_Ho_doWhatIsDue_144 : decode b_Ho_doWhatIsDue 144 = .ok (.dup, 1) := by decide +kernel
theorem d_Ho_doWhatIsDue_145 : decode b_Ho_doWhatIsDue 145 = .ok (.getfield 65, 3) := by decide +kernel
theorem d_Ho_doWhatIsDue_148 : decode b_Ho_doWhatIsDue 148 = .ok (.iconst 1, 1) := by decide +kernel
theorem d_Ho_doWhatIsDue_149 : decode b_Ho_doWhatIsDue 149 = .ok (.iadd, 1) := by decide +kernel
theorem d_Ho_doWhatIsDue_150 : decode b_Ho_doWhatIsDue 150 = .ok (.putfield 65, 3) := by decide +kernel
theorem d_Ho_doWhatIsDue_153 : decode b_Ho_doWhatIsDue 153 = .ok (.return_, 1) := by decide +kernel
theorem d_Or_expire_0 : decode b_Or_expire 0 = .ok (.aload_n 0, 1) := by decide +kernel
theorem d_Or_expire_1 : decode b_Or_expire 1 = .ok (.getfield 10, 3) := by decide +kernel
theorem d_Or_expire_4 : decode b_Or_expire 4 = .ok (.invokevirtual 16, 3) := by decide +kernel
theorem d_Or_expire_7 : decode b_Or_expire 7 = .ok (.iconst 1, 1) := by decide +kernel
theorem d_Or_expire_8 : decode b_Or_expire 8 = .ok (.isub, 1) := by decide +kernel
theorem d_Or_expire_9 : decode b_Or_expire 9 = .ok (.istore_n 2, 1) := by decide +kernel
theorem d_Or_expire_10 : decode b_Or_expire 10 = .ok (.iload_n 2, 1) := by decide +kernel
theorem d_Or_expire_11 : decode b_Or_expire 11 = .ok (.ifCond .lt 36, 3) := by decide +kernel
theorem d_Or_expire_14 : decode b_Or_expire 14 = .ok (.iload_n 1, 1) := by decide +kernel
theorem d_Or_expire_15 : decode b_Or_expire 15 = .ok (.aload_n 0, 1) := by decide +kernel
theorem d_Or_expire_16 : decode b_Or_expire 16 = .ok (.getfield 10, 3) := by decide +kernel
theorem d_Or_expire_19 : decode b_Or_expire 19 = .ok (.iload_n 2, 1) := by decide +kernel
theorem d_Or_expire_20 : decode b_Or_expire 20 = .ok (.invokevirtual 20, 3) := by decide +kernel
theorem d_Or_expire_23 : decode b_Or_expire 23 = .ok (.checkcast 24, 3) := by decide +kernel
theorem d_Or_expire_26 : decode b_Or_expire 26 = .ok (.getfield 44, 3) := by decide +kernel
theorem d_Or_expire_29 : decode b_Or_expire 29 = .ok (.if_icmp .lt 12, 3) := by decide +kernel
theorem d_Or_expire_32 : decode b_Or_expire 32 = .ok (.aload_n 0, 1) := by decide +kernel
theorem d_Or_expire_33 : decode b_Or_expire 33 = .ok (.getfield 10, 3) := by decide +kernel
theorem d_Or_expire_36 : decode b_Or_expire 36 = .ok (.iload_n 2, 1) := by decide +kernel
theorem d_Or_expire_37 : decode b_Or_expire 37 = .ok (.invokevirtual 47, 3) := by decide +kernel
theorem d_Or_expire_40 : decode b_Or_expire 40 = .ok (.pop, 1) := by decide +kernel
theorem d_Or_expire_41 : decode b_Or_expire 41 = .ok (.iinc 2 (-1), 3) := by decide +kernel
theorem d_Or_expire_44 : decode b_Or_expire 44 = .ok (.goto (-34), 3) := by decide +kernel
theorem d_Or_expire_47 : decode b_Or_expire 47 = .ok (.return_, 1) := by decide +kernel
theorem d_Al_remove_0 : decode b_Al_remove 0 = .ok (.iload_n 1, 1) := by decide +kernel
theorem d_Al_remove_1 : decode b_Al_remove 1 = .ok (.aload_n 0, 1) := by decide +kernel
theorem d_Al_remove_2 : decode b_Al_remove 2 = .ok (.getfield 48, 3) := by decide +kernel
theorem d_Al_remove_5 : decode b_Al_remove 5 = .ok (.invokestatic 118, 3) := by decide +kernel
theorem d_Al_remove_8 : decode b_Al_remove 8 = .ok (.pop, 1) := by decide +kernel
theorem d_Al_remove_9 : decode b_Al_remove 9 = .ok (.aload_n 0, 1) := by decide +kernel
theorem d_Al_remove_10 : decode b_Al_remove 10 = .ok (.getfield 9, 3) := by decide +kernel
theorem d_Al_remove_13 : decode b_Al_remove 13 = .ok (.astore_n 2, 1) := by decide +kernel
theorem d_Al_remove_14 : decode b_Al_remove 14 = .ok (.aload_n 2, 1) := by decide +kernel
theorem d_Al_remove_15 : decode b_Al_remove 15 = .ok (.iload_n 1, 1) := by decide +kernel
theorem d_Al_remove_16 : decode b_Al_remove 16 = .ok (.aaload, 1) := by decide +kernel
theorem d_Al_remove_17 : decode b_Al_remove 17 = .ok (.astore_n 3, 1) := by decide +kernel
theorem d_Al_remove_18 : decode b_Al_remove 18 = .ok (.aload_n 0, 1) := by decide +kernel
theorem d_Al_remove_19 : decode b_Al_remove 19 = .ok (.aload_n 2, 1) := by decide +kernel
theorem d_Al_remove_20 : decode b_Al_remove 20 = .ok (.iload_n 1, 1) := by decide +kernel
theorem d_Al_remove_21 : decode b_Al_remove 21 = .ok (.invokevirtual 144, 3) := by decide +kernel
theorem d_Al_remove_24 : decode b_Al_remove 24 = .ok (.aload_n 3, 1) := by decide +kernel
theorem d_Al_remove_25 : decode b_Al_remove 25 = .ok (.areturn, 1) := by decide +kernel
theorem d_Al_fastRemove_0 : decode b_Al_fastRemove 0 = .ok (.aload_n 0, 1) := by decide +kernel
theorem d_Al_fastRemove_1 : decode b_Al_fastRemove 1 = .ok (.dup, 1) := by decide +kernel
theorem d_Al_fastRemove_2 : decode b_Al_fastRemove 2 = .ok (.getfield 63, 3) := by decide +kernel
theorem d_Al_fastRemove_5 : decode b_Al_fastRemove 5 = .ok (.iconst 1, 1) := by decide +kernel
theorem d_Al_fastRemove_6 : decode b_Al_fastRemove 6 = .ok (.iadd, 1) := by decide +kernel
theorem d_Al_fastRemove_7 : decode b_Al_fastRemove 7 = .ok (.putfield 63, 3) := by decide +kernel
theorem d_Al_fastRemove_10 : decode b_Al_fastRemove 10 = .ok (.aload_n 0, 1) := by decide +kernel
theorem d_Al_fastRemove_11 : decode b_Al_fastRemove 11 = .ok (.getfield 48, 3) := by decide +kernel
theorem d_Al_fastRemove_14 : decode b_Al_fastRemove 14 = .ok (.iconst 1, 1) := by decide +kernel
theorem d_Al_fastRemove_15 : decode b_Al_fastRemove 15 = .ok (.isub, 1) := by decide +kernel
theorem d_Al_fastRemove_16 : decode b_Al_fastRemove 16 = .ok (.dup, 1) := by decide +kernel
theorem d_Al_fastRemove_17 : decode b_Al_fastRemove 17 = .ok (.istore_n 3, 1) := by decide +kernel
theorem d_Al_fastRemove_18 : decode b_Al_fastRemove 18 = .ok (.iload_n 2, 1) := by decide +kernel
theorem d_Al_fastRemove_19 : decode b_Al_fastRemove 19 = .ok (.if_icmp .le 15, 3) := by decide +kernel
theorem d_Al_fastRemove_22 : decode b_Al_fastRemove 22 = .ok (.aload_n 1, 1) := by decide +kernel
theorem d_Al_fastRemove_23 : decode b_Al_fastRemove 23 = .ok (.iload_n 2, 1) := by decide +kernel
theorem d_Al_fastRemove_24 : decode b_Al_fastRemove 24 = .ok (.iconst 1, 1) := by decide +kernel
theorem d_Al_fastRemove_25 : decode b_Al_fastRemove 25 = .ok (.iadd, 1) := by decide +kernel
theorem d_Al_fastRemove_26 : decode b_Al_fastRemove 26 = .ok (.aload_n 1, 1) := by decide +kernel
theorem d_Al_fastRemove_27 : decode b_Al_fastRemove 27 = .ok (.iload_n 2, 1) := by decide +kernel
theorem d_Al_fastRemove_28 : decode b_Al_fastRemove 28 = .ok (.iload_n 3, 1) := by decide +kernel
theorem d_Al_fastRemove_29 : decode b_Al_fastRemove 29 = .ok (.iload_n 2, 1) := by decide +kernel
theorem d_Al_fastRemove_30 : decode b_Al_fastRemove 30 = .ok (.isub, 1) := by decide +kernel
theorem d_Al_fastRemove_31 : decode b_Al_fastRemove 31 = .ok (.invokestatic 112, 3) := by decide +kernel
theorem d_Al_fastRemove_34 : decode b_Al_fastRemove 34 = .ok (.aload_n 1, 1) := by decide +kernel
theorem d_Al_fastRemove_35 : decode b_Al_fastRemove 35 = .ok (.aload_n 0, 1) := by decide +kernel
theorem d_Al_fastRemove_36 : decode b_Al_fastRemove 36 = .ok (.iload_n 3, 1) := by decide +kernel
theorem d_Al_fastRemove_37 : decode b_Al_fastRemove 37 = .ok (.dup_x1, 1) := by decide +kernel
theorem d_Al_fastRemove_38 : decode b_Al_fastRemove 38 = .ok (.putfield 48, 3) := by decide +kernel
theorem d_Al_fastRemove_41 : decode b_Al_fastRemove 41 = .ok (.aconst_null, 1) := by decide +kernel
theorem d_Al_fastRemove_42 : decode b_Al_fastRemove 42 = .ok (.aastore, 1) := by decide +kernel
theorem d_Al_fastRemove_43 : decode b_Al_fastRemove 43 = .ok (.return_, 1) := by decide +kernel
theorem d_Or_length_0 : decode b_Or_length 0 = .ok (.aload_n 0, 1) := by decide +kernel
theorem d_Or_length_1 : decode b_Or_length 1 = .ok (.getfield 10, 3) := by decide +kernel
theorem d_Or_length_4 : decode b_Or_length 4 = .ok (.invokevirtual 16, 3) := by decide +kernel
theorem d_Or_length_7 : decode b_Or_length 7 = .ok (.ireturn, 1) := by decide +kernel
theorem d_Or_at_0 : decode b_Or_at 0 = .ok (.aload_n 0, 1) := by decide +kernel
theorem d_Or_at_1 : decode b_Or_at 1 = .ok (.getfield 10, 3) := by decide +kernel
theorem d_Or_at_4 : decode b_Or_at 4 = .ok (.iload_n 1, 1) := by decide +kernel
theorem d_Or_at_5 : decode b_Or_at 5 = .ok (.invokevirtual 20, 3) := by decide +kernel
theorem d_Or_at_8 : decode b_Or_at 8 = .ok (.checkcast 24, 3) := by decide +kernel
theorem d_Or_at_11 : decode b_Or_at 11 = .ok (.areturn, 1) := by decide +kernel
theorem d_Ho_ageOwn_0 : decode b_Ho_ageOwn 0 = .ok (.aload_n 0, 1) := by decide +kernel
theorem d_Ho_ageOwn_1 : decode b_Ho_ageOwn 1 = .ok (.getfield 52, 3) := by decide +kernel
theorem d_Ho_ageOwn_4 : decode b_Ho_ageOwn 4 = .ok (.aload_n 1, 1) := by decide +kernel
theorem d_Ho_ageOwn_5 : decode b_Ho_ageOwn 5 = .ok (.getfield 296, 3) := by decide +kernel
theorem d_Ho_ageOwn_8 : decode b_Ho_ageOwn 8 = .ok (.if_icmp .lt 7, 3) := by decide +kernel
theorem d_Ho_ageOwn_11 : decode b_Ho_ageOwn 11 = .ok (.iconst 1, 1) := by decide +kernel
theorem d_Ho_ageOwn_12 : decode b_Ho_ageOwn 12 = .ok (.goto 4, 3) := by decide +kernel
theorem d_Ho_ageOwn_15 : decode b_Ho_ageOwn 15 = .ok (.iconst 0, 1) := by decide +kernel
theorem d_Ho_ageOwn_16 : decode b_Ho_ageOwn 16 = .ok (.istore_n 2, 1) := by decide +kernel
theorem d_Ho_ageOwn_17 : decode b_Ho_ageOwn 17 = .ok (.aload_n 1, 1) := by decide +kernel
theorem d_Ho_ageOwn_18 : decode b_Ho_ageOwn 18 = .ok (.getfield 156, 3) := by decide +kernel
theorem d_Ho_ageOwn_21 : decode b_Ho_ageOwn 21 = .ok (.iconst 2, 1) := by decide +kernel
theorem d_Ho_ageOwn_22 : decode b_Ho_ageOwn 22 = .ok (.if_icmp .ne 15, 3) := by decide +kernel
theorem d_Ho_ageOwn_25 : decode b_Ho_ageOwn 25 = .ok (.iload_n 2, 1) := by decide +kernel
theorem d_Ho_ageOwn_26 : decode b_Ho_ageOwn 26 = .ok (.ifCond .eq 11, 3) := by decide +kernel
theorem d_Ho_ageOwn_29 : decode b_Ho_ageOwn 29 = .ok (.aload_n 1, 1) := by decide +kernel
theorem d_Ho_ageOwn_30 : decode b_Ho_ageOwn 30 = .ok (.iconst 3, 1) := by decide +kernel
theorem d_Ho_ageOwn_31 : decode b_Ho_ageOwn 31 = .ok (.putfield 156, 3) := by decide +kernel
theorem d_Ho_ageOwn_34 : decode b_Ho_ageOwn 34 = .ok (.goto 45, 3) := by decide +kernel
theorem d_Ho_ageOwn_37 : decode b_Ho_ageOwn 37 = .ok (.aload_n 1, 1) := by decide +kernel
theorem d_Ho_ageOwn_38 : decode b_Ho_ageOwn 38 = .ok (.getfield 156, 3) := by decide +kernel
theorem d_Ho_ageOwn_41 : decode b_Ho_ageOwn 41 = .ok (.iconst 1, 1) := by decide +kernel
theorem d_Ho_ageOwn_42 : decode b_Ho_ageOwn 42 = .ok (.if_icmp .ne 37, 3) := by decide +kernel
theorem d_Ho_ageOwn_45 : decode b_Ho_ageOwn 45 = .ok (.aload_n 0, 1) := by decide +kernel
theorem d_Ho_ageOwn_46 : decode b_Ho_ageOwn 46 = .ok (.getfield 52, 3) := by decide +kernel
theorem d_Ho_ageOwn_49 : decode b_Ho_ageOwn 49 = .ok (.aload_n 1, 1) := by decide +kernel
theorem d_Ho_ageOwn_50 : decode b_Ho_ageOwn 50 = .ok (.getfield 299, 3) := by decide +kernel
theorem d_Ho_ageOwn_53 : decode b_Ho_ageOwn 53 = .ok (.isub, 1) := by decide +kernel
theorem d_Ho_ageOwn_54 : decode b_Ho_ageOwn 54 = .ok (.iconst 2, 1) := by decide +kernel
theorem d_Ho_ageOwn_55 : decode b_Ho_ageOwn 55 = .ok (.if_icmp .ge 11, 3) := by decide +kernel
theorem d_Ho_ageOwn_58 : decode b_Ho_ageOwn 58 = .ok (.aload_n 0, 1) := by decide +kernel
theorem d_Ho_ageOwn_59 : decode b_Ho_ageOwn 59 = .ok (.aload_n 1, 1) := by decide +kernel
theorem d_Ho_ageOwn_60 : decode b_Ho_ageOwn 60 = .ok (.invokevirtual 302, 3) := by decide +kernel
theorem d_Ho_ageOwn_63 : decode b_Ho_ageOwn 63 = .ok (.goto 16, 3) := by decide +kernel
theorem d_Ho_ageOwn_66 : decode b_Ho_ageOwn 66 = .ok (.aload_n 1, 1) := by decide +kernel
theorem d_Ho_ageOwn_67 : decode b_Ho_ageOwn 67 = .ok (.iload_n 2, 1) := by decide +kernel
theorem d_Ho_ageOwn_68 : decode b_Ho_ageOwn 68 = .ok (.ifCond .eq 7, 3) := by decide +kernel
theorem d_Ho_ageOwn_71 : decode b_Ho_ageOwn 71 = .ok (.iconst 3, 1) := by decide +kernel
theorem d_Ho_ageOwn_72 : decode b_Ho_ageOwn 72 = .ok (.goto 4, 3) := by decide +kernel
theorem d_Ho_ageOwn_75 : decode b_Ho_ageOwn 75 = .ok (.iconst 2, 1) := by decide +kernel
theorem d_Ho_ageOwn_76 : decode b_Ho_ageOwn 76 = .ok (.putfield 156, 3) := by decide +kernel
theorem d_Ho_ageOwn_79 : decode b_Ho_ageOwn 79 = .ok (.return_, 1) := by decide +kernel
theorem d_Nr_length_0 : decode b_Nr_length 0 = .ok (.aload_n 0, 1) := by decide +kernel
theorem d_Nr_length_1 : decode b_Nr_length 1 = .ok (.getfield 12, 3) := by decide +kernel
theorem d_Nr_length_4 : decode b_Nr_length 4 = .ok (.invokevirtual 18, 3) := by decide +kernel
theorem d_Nr_length_7 : decode b_Nr_length 7 = .ok (.ireturn, 1) := by decide +kernel
theorem d_Nr_at_0 : decode b_Nr_at 0 = .ok (.aload_n 0, 1) := by decide +kernel
theorem d_Nr_at_1 : decode b_Nr_at 1 = .ok (.getfield 12, 3) := by decide +kernel
theorem d_Nr_at_4 : decode b_Nr_at 4 = .ok (.iload_n 1, 1) := by decide +kernel
theorem d_Nr_at_5 : decode b_Nr_at 5 = .ok (.invokevirtual 22, 3) := by decide +kernel
theorem d_Nr_at_8 : decode b_Nr_at 8 = .ok (.checkcast 26, 3) := by decide +kernel
theorem d_Nr_at_11 : decode b_Nr_at 11 = .ok (.areturn, 1) := by decide +kernel
theorem d_Ho_ageNeighbour_0 : decode b_Ho_ageNeighbour 0 = .ok (.aload_n 0, 1) := by decide +kernel
theorem d_Ho_ageNeighbour_1 : decode b_Ho_ageNeighbour 1 = .ok (.getfield 52, 3) := by decide +kernel
theorem d_Ho_ageNeighbour_4 : decode b_Ho_ageNeighbour 4 = .ok (.aload_n 1, 1) := by decide +kernel
theorem d_Ho_ageNeighbour_5 : decode b_Ho_ageNeighbour 5 = .ok (.getfield 305, 3) := by decide +kernel
theorem d_Ho_ageNeighbour_8 : decode b_Ho_ageNeighbour 8 = .ok (.isub, 1) := by decide +kernel
theorem d_Ho_ageNeighbour_9 : decode b_Ho_ageNeighbour 9 = .ok (.istore_n 2, 1) := by decide +kernel
theorem d_Ho_ageNeighbour_10 : decode b_Ho_ageNeighbour 10 = .ok (.aload_n 1, 1) := by decide +kernel
theorem d_Ho_ageNeighbour_11 : decode b_Ho_ageNeighbour 11 = .ok (.invokevirtual 308, 3) := by decide +kernel
theorem d_Ho_ageNeighbour_14 : decode b_Ho_ageNeighbour 14 = .ok (.ifCond .eq 16, 3) := by decide +kernel
theorem d_Ho_ageNeighbour_17 : decode b_Ho_ageNeighbour 17 = .ok (.iload_n 2, 1) := by decide +kernel
theorem d_Ho_ageNeighbour_18 : decode b_Ho_ageNeighbour 18 = .ok (.iconst 3, 1) := by decide +kernel
theorem d_Ho_ageNeighbour_19 : decode b_Ho_ageNeighbour 19 = .ok (.if_icmp .ge 64, 3) := by decide +kernel
theorem d_Ho_ageNeighbour_22 : decode b_Ho_ageNeighbour 22 = .ok (.aload_n 0, 1) := by decide +kernel
theorem d_Ho_ageNeighbour_23 : decode b_Ho_ageNeighbour 23 = .ok (.aload_n 1, 1) := by decide +kernel
theorem d_Ho_ageNeighbour_24 : decode b_Ho_ageNeighbour 24 = .ok (.invokevirtual 311, 3) := by decide +kernel
theorem d_Ho_ageNeighbour_27 : decode b_Ho_ageNeighbour 27 = .ok (.goto 56, 3) := by decide +kernel
theorem d_Ho_ageNeighbour_30 : decode b_Ho_ageNeighbour 30 = .ok (.aload_n 1, 1) := by decide +kernel
theorem d_Ho_ageNeighbour_31 : decode b_Ho_ageNeighbour 31 = .ok (.getfield 236, 3) := by decide +kernel
theorem d_Ho_ageNeighbour_34 : decode b_Ho_ageNeighbour 34 = .ok (.iconst 2, 1) := by decide +kernel
theorem d_Ho_ageNeighbour_35 : decode b_Ho_ageNeighbour 35 = .ok (.if_icmp .ne 21, 3) := by decide +kernel
theorem d_Ho_ageNeighbour_38 : decode b_Ho_ageNeighbour 38 = .ok (.iload_n 2, 1) := by decide +kernel
theorem d_Ho_ageNeighbour_39 : decode b_Ho_ageNeighbour 39 = .ok (.bipush 10, 2) := by decide +kernel
theorem d_Ho_ageNeighbour_41 : decode b_Ho_ageNeighbour 41 = .ok (.if_icmp .lt 15, 3) := by decide +kernel
theorem d_Ho_ageNeighbour_44 : decode b_Ho_ageNeighbour 44 = .ok (.aload_n 1, 1) := by decide +kernel
theorem d_Ho_ageNeighbour_45 : decode b_Ho_ageNeighbour 45 = .ok (.iconst 3, 1) := by decide +kernel
theorem d_Ho_ageNeighbour_46 : decode b_Ho_ageNeighbour 46 = .ok (.aload_n 0, 1) := by decide +kernel
theorem d_Ho_ageNeighbour_47 : decode b_Ho_ageNeighbour 47 = .ok (.getfield 52, 3) := by decide +kernel
theorem d_Ho_ageNeighbour_50 : decode b_Ho_ageNeighbour 50 = .ok (.invokevirtual 314, 3) := by decide +kernel
theorem d_Ho_ageNeighbour_53 : decode b_Ho_ageNeighbour 53 = .ok (.goto 30, 3) := by decide +kernel
theorem d_Ho_ageNeighbour_56 : decode b_Ho_ageNeighbour 56 = .ok (.aload_n 1, 1) := by decide +kernel
theorem d_Ho_ageNeighbour_57 : decode b_Ho_ageNeighbour 57 = .ok (.getfield 236, 3) := by decide +kernel
theorem d_Ho_ageNeighbour_60 : decode b_Ho_ageNeighbour 60 = .ok (.iconst 4, 1) := by decide +kernel
theorem d_Ho_ageNeighbour_61 : decode b_Ho_ageNeighbour 61 = .ok (.if_icmp .ne 22, 3) := by decide +kernel
theorem d_Ho_ageNeighbour_64 : decode b_Ho_ageNeighbour 64 = .ok (.iload_n 2, 1) := by decide +kernel
theorem d_Ho_ageNeighbour_65 : decode b_Ho_ageNeighbour 65 = .ok (.iconst 5, 1) := by decide +kernel
theorem d_Ho_ageNeighbour_66 : decode b_Ho_ageNeighbour 66 = .ok (.if_icmp .lt 17, 3) := by decide +kernel
theorem d_Ho_ageNeighbour_69 : decode b_Ho_ageNeighbour 69 = .ok (.aload_n 1, 1) := by decide +kernel
theorem d_Ho_ageNeighbour_70 : decode b_Ho_ageNeighbour 70 = .ok (.iconst 5, 1) := by decide +kernel
theorem d_Ho_ageNeighbour_71 : decode b_Ho_ageNeighbour 71 = .ok (.aload_n 0, 1) := by decide +kernel
theorem d_Ho_ageNeighbour_72 : decode b_Ho_ageNeighbour 72 = .ok (.getfield 52, 3) := by decide +kernel
theorem d_Ho_ageNeighbour_75 : decode b_Ho_ageNeighbour 75 = .ok (.invokevirtual 314, 3) := by decide +kernel
theorem d_Ho_ageNeighbour_78 : decode b_Ho_ageNeighbour 78 = .ok (.aload_n 0, 1) := by decide +kernel
theorem d_Ho_ageNeighbour_79 : decode b_Ho_ageNeighbour 79 = .ok (.aload_n 1, 1) := by decide +kernel
theorem d_Ho_ageNeighbour_80 : decode b_Ho_ageNeighbour 80 = .ok (.invokevirtual 311, 3) := by decide +kernel
theorem d_Ho_ageNeighbour_83 : decode b_Ho_ageNeighbour 83 = .ok (.return_, 1) := by decide +kernel
theorem d_Ne_isAskedFor_0 : decode b_Ne_isAskedFor 0 = .ok (.aload_n 0, 1) := by decide +kernel
theorem d_Ne_isAskedFor_1 : decode b_Ne_isAskedFor 1 = .ok (.getfield 25, 3) := by decide +kernel
theorem d_Ne_isAskedFor_4 : decode b_Ne_isAskedFor 4 = .ok (.iconst 1, 1) := by decide +kernel
theorem d_Ne_isAskedFor_5 : decode b_Ne_isAskedFor 5 = .ok (.if_icmp .eq 11, 3) := by decide +kernel
theorem d_Ne_isAskedFor_8 : decode b_Ne_isAskedFor 8 = .ok (.aload_n 0, 1) := by decide +kernel
theorem d_Ne_isAskedFor_9 : decode b_Ne_isAskedFor 9 = .ok (.getfield 25, 3) := by decide +kernel
theorem d_Ne_isAskedFor_12 : decode b_Ne_isAskedFor 12 = .ok (.iconst 5, 1) := by decide +kernel
theorem d_Ne_isAskedFor_13 : decode b_Ne_isAskedFor 13 = .ok (.if_icmp .ne 7, 3) := by decide +kernel
theorem d_Ne_isAskedFor_16 : decode b_Ne_isAskedFor 16 = .ok (.iconst 1, 1) := by decide +kernel
theorem d_Ne_isAskedFor_17 : decode b_Ne_isAskedFor 17 = .ok (.goto 4, 3) := by decide +kernel
theorem d_Ne_isAskedFor_20 : decode b_Ne_isAskedFor 20 = .ok (.iconst 0, 1) := by decide +kernel
theorem d_Ne_isAskedFor_21 : decode b_Ne_isAskedFor 21 = .ok (.ireturn, 1) := by decide +kernel
theorem d_Ho_ask_0 : decode b_Ho_ask 0 = .ok (.aload_n 0, 1) := by decide +kernel
theorem d_Ho_ask_1 : decode b_Ho_ask 1 = .ok (.getfield 10, 3) := by decide +kernel
theorem d_Ho_ask_4 : decode b_Ho_ask 4 = .ok (.iconst 2, 1) := by decide +kernel
theorem d_Ho_ask_5 : decode b_Ho_ask 5 = .ok (.aload_n 1, 1) := by decide +kernel
theorem d_Ho_ask_6 : decode b_Ho_ask 6 = .ok (.getfield 236, 3) := by decide +kernel
theorem d_Ho_ask_9 : decode b_Ho_ask 9 = .ok (.iconst 1, 1) := by decide +kernel
theorem d_Ho_ask_10 : decode b_Ho_ask 10 = .ok (.if_icmp .ne 8, 3) := by decide +kernel
theorem d_Ho_ask_13 : decode b_Ho_ask 13 = .ok (.ldc 152, 2) := by decide +kernel
theorem d_Ho_ask_15 : decode b_Ho_ask 15 = .ok (.goto 7, 3) := by decide +kernel
theorem d_Ho_ask_18 : decode b_Ho_ask 18 = .ok (.aload_n 1, 1) := by decide +kernel
theorem d_Ho_ask_19 : decode b_Ho_ask 19 = .ok (.getfield 337, 3) := by decide +kernel
theorem d_Ho_ask_22 : decode b_Ho_ask 22 = .ok (.aload_n 1, 1) := by decide +kernel
theorem d_Ho_ask_23 : decode b_Ho_ask 23 = .ok (.getfield 337, 3) := by decide +kernel
theorem d_Ho_ask_26 : decode b_Ho_ask 26 = .ok (.invokevirtual 153, 3) := by decide +kernel
theorem d_Ho_ask_29 : decode b_Ho_ask 29 = .ok (.return_, 1) := by decide +kernel
theorem d_Ne_enter_0 : decode b_Ne_enter 0 = .ok (.aload_n 0, 1) := by decide +kernel
theorem d_Ne_enter_1 : decode b_Ne_enter 1 = .ok (.iload_n 1, 1) := by decide +kernel
theorem d_Ne_enter_2 : decode b_Ne_enter 2 = .ok (.putfield 25, 3) := by decide +kernel
theorem d_Ne_enter_5 : decode b_Ne_enter 5 = .ok (.aload_n 0, 1) := by decide +kernel
theorem d_Ne_enter_6 : decode b_Ne_enter 6 = .ok (.iload_n 2, 1) := by decide +kernel
theorem d_Ne_enter_7 : decode b_Ne_enter 7 = .ok (.putfield 28, 3) := by decide +kernel
theorem d_Ne_enter_10 : decode b_Ne_enter 10 = .ok (.return_, 1) := by decide +kernel
theorem d_Nr_giveUp_0 : decode b_Nr_giveUp 0 = .ok (.iconst 0, 1) := by decide +kernel
theorem d_Nr_giveUp_1 : decode b_Nr_giveUp 1 = .ok (.istore_n 2, 1) := by decide +kernel
theorem d_Nr_giveUp_2 : decode b_Nr_giveUp 2 = .ok (.aload_n 0, 1) := by decide +kernel
theorem d_Nr_giveUp_3 : decode b_Nr_giveUp 3 = .ok (.getfield 12, 3) := by decide +kernel
theorem d_Nr_giveUp_6 : decode b_Nr_giveUp 6 = .ok (.invokevirtual 18, 3) := by decide +kernel
theorem d_Nr_giveUp_9 : decode b_Nr_giveUp 9 = .ok (.iconst 1, 1) := by decide +kernel
theorem d_Nr_giveUp_10 : decode b_Nr_giveUp 10 = .ok (.isub, 1) := by decide +kernel
theorem d_Nr_giveUp_11 : decode b_Nr_giveUp 11 = .ok (.istore_n 3, 1) := by decide +kernel
theorem d_Nr_giveUp_12 : decode b_Nr_giveUp 12 = .ok (.iload_n 3, 1) := by decide +kernel
theorem d_Nr_giveUp_13 : decode b_Nr_giveUp 13 = .ok (.ifCond .lt 66, 3) := by decide +kernel
theorem d_Nr_giveUp_16 : decode b_Nr_giveUp 16 = .ok (.aload_n 0, 1) := by decide +kernel
theorem d_Nr_giveUp_17 : decode b_Nr_giveUp 17 = .ok (.getfield 12, 3) := by decide +kernel
theorem d_Nr_giveUp_20 : decode b_Nr_giveUp 20 = .ok (.iload_n 3, 1) := by decide +kernel
theorem d_Nr_giveUp_21 : decode b_Nr_giveUp 21 = .ok (.invokevirtual 22, 3) := by decide +kernel
theorem d_Nr_giveUp_24 : decode b_Nr_giveUp 24 = .ok (.checkcast 26, 3) := by decide +kernel
theorem d_Nr_giveUp_27 : decode b_Nr_giveUp 27 = .ok (.astore 4, 2) := by decide +kernel
theorem d_Nr_giveUp_29 : decode b_Nr_giveUp 29 = .ok (.aload 4, 2) := by decide +kernel
theorem d_Nr_giveUp_31 : decode b_Nr_giveUp 31 = .ok (.invokevirtual 39, 3) := by decide +kernel
theorem d_Nr_giveUp_34 : decode b_Nr_giveUp 34 = .ok (.ifCond .eq 39, 3) := by decide +kernel
theorem d_Nr_giveUp_37 : decode b_Nr_giveUp 37 = .ok (.iload_n 1, 1) := by decide +kernel
theorem d_Nr_giveUp_38 : decode b_Nr_giveUp 38 = .ok (.aload 4, 2) := by decide +kernel
theorem d_Nr_giveUp_40 : decode b_Nr_giveUp 40 = .ok (.getfield 43, 3) := by decide +kernel
theorem d_Nr_giveUp_43 : decode b_Nr_giveUp 43 = .ok (.isub, 1) := by decide +kernel
theorem d_Nr_giveUp_44 : decode b_Nr_giveUp 44 = .ok (.iconst 3, 1) := by decide +kernel
theorem d_Nr_giveUp_45 : decode b_Nr_giveUp 45 = .ok (.if_icmp .lt 28, 3) := by decide +kernel
theorem d_Nr_giveUp_48 : decode b_Nr_giveUp 48 = .ok (.iload_n 2, 1) := by decide +kernel
theorem d_Nr_giveUp_49 : decode b_Nr_giveUp 49 = .ok (.aload 4, 2) := by decide +kernel
theorem d_Nr_giveUp_51 : decode b_Nr_giveUp 51 = .ok (.invokevirtual 46, 3) := by decide +kernel
theorem d_Nr_giveUp_54 : decode b_Nr_giveUp 54 = .ok (.ifCond .eq 7, 3) := by decide +kernel
theorem d_Nr_giveUp_57 : decode b_Nr_giveUp 57 = .ok (.iconst 1, 1) := by decide +kernel
theorem d_Nr_giveUp_58 : decode b_Nr_giveUp 58 = .ok (.goto 4, 3) := by decide +kernel
theorem d_Nr_giveUp_61 : decode b_Nr_giveUp 61 = .ok (.iconst 0, 1) := by decide +kernel
theorem d_Nr_giveUp_62 : decode b_Nr_giveUp 62 = .ok (.iadd, 1) := by decide +kernel
theorem d_Nr_giveUp_63 : decode b_Nr_giveUp 63 = .ok (.istore_n 2, 1) := by decide +kernel
theorem d_Nr_giveUp_64 : decode b_Nr_giveUp 64 = .ok (.aload_n 0, 1) := by decide +kernel
theorem d_Nr_giveUp_65 : decode b_Nr_giveUp 65 = .ok (.getfield 12, 3) := by decide +kernel
theorem d_Nr_giveUp_68 : decode b_Nr_giveUp 68 = .ok (.iload_n 3, 1) := by decide +kernel
theorem d_Nr_giveUp_69 : decode b_Nr_giveUp 69 = .ok (.invokevirtual 28, 3) := by decide +kernel
theorem d_Nr_giveUp_72 : decode b_Nr_giveUp 72 = .ok (.pop, 1) := by decide +kernel
theorem d_Nr_giveUp_73 : decode b_Nr_giveUp 73 = .ok (.iinc 3 (-1), 3) := by decide +kernel
theorem d_Nr_giveUp_76 : decode b_Nr_giveUp 76 = .ok (.goto (-64), 3) := by decide +kernel
theorem d_Nr_giveUp_79 : decode b_Nr_giveUp 79 = .ok (.iload_n 2, 1) := by decide +kernel
theorem d_Nr_giveUp_80 : decode b_Nr_giveUp 80 = .ok (.ireturn, 1) := by decide +kernel
