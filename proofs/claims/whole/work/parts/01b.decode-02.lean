/-! decode rows: by a program -/
theorem d_Tr_expire_0 : decode b_Tr_expire 0 = .ok (.aload_n 0, 1) := by decide +kernel
theorem d_Tr_expire_1 : decode b_Tr_expire 1 = .ok (.getfield 10, 3) := by decide +kernel
theorem d_Tr_expire_4 : decode b_Tr_expire 4 = .ok (.invokevirtual 20, 3) := by decide +kernel
theorem d_Tr_expire_7 : decode b_Tr_expire 7 = .ok (.iconst 1, 1) := by decide +kernel
theorem d_Tr_expire_8 : decode b_Tr_expire 8 = .ok (.isub, 1) := by decide +kernel
theorem d_Tr_expire_9 : decode b_Tr_expire 9 = .ok (.istore_n 2, 1) := by decide +kernel
theorem d_Tr_expire_10 : decode b_Tr_expire 10 = .ok (.iload_n 2, 1) := by decide +kernel
theorem d_Tr_expire_11 : decode b_Tr_expire 11 = .ok (.ifCond .lt 36, 3) := by decide +kernel
theorem d_Tr_expire_14 : decode b_Tr_expire 14 = .ok (.iload_n 1, 1) := by decide +kernel
theorem d_Tr_expire_15 : decode b_Tr_expire 15 = .ok (.aload_n 0, 1) := by decide +kernel
theorem d_Tr_expire_16 : decode b_Tr_expire 16 = .ok (.getfield 10, 3) := by decide +kernel
theorem d_Tr_expire_19 : decode b_Tr_expire 19 = .ok (.iload_n 2, 1) := by decide +kernel
theorem d_Tr_expire_20 : decode b_Tr_expire 20 = .ok (.invokevirtual 24, 3) := by decide +kernel
theorem d_Tr_expire_23 : decode b_Tr_expire 23 = .ok (.checkcast 28, 3) := by decide +kernel
theorem d_Tr_expire_26 : decode b_Tr_expire 26 = .ok (.getfield 37, 3) := by decide +kernel
theorem d_Tr_expire_29 : decode b_Tr_expire 29 = .ok (.if_icmp .lt 12, 3) := by decide +kernel
theorem d_Tr_expire_32 : decode b_Tr_expire 32 = .ok (.aload_n 0, 1) := by decide +kernel
theorem d_Tr_expire_33 : decode b_Tr_expire 33 = .ok (.getfield 10, 3) := by decide +kernel
theorem d_Tr_expire_36 : decode b_Tr_expire 36 = .ok (.iload_n 2, 1) := by decide +kernel
theorem d_Tr_expire_37 : decode b_Tr_expire 37 = .ok (.invokevirtual 46, 3) := by decide +kernel
theorem d_Tr_expire_40 : decode b_Tr_expire 40 = .ok (.pop, 1) := by decide +kernel
theorem d_Tr_expire_41 : decode b_Tr_expire 41 = .ok (.iinc 2 (-1), 3) := by decide +kernel
theorem d_Tr_expire_44 : decode b_Tr_expire 44 = .ok (.goto (-34), 3) := by decide +kernel
theorem d_Tr_expire_47 : decode b_Tr_expire 47 = .ok (.return_, 1) := by decide +kernel
theorem d_La_router_0 : decode b_La_router 0 = .ok (.aload_n 0, 1) := by decide +kernel
theorem d_La_router_1 : decode b_La_router 1 = .ok (.iload_n 1, 1) := by decide +kernel
theorem d_La_router_2 : decode b_La_router 2 = .ok (.iload_n 2, 1) := by decide +kernel
theorem d_La_router_3 : decode b_La_router 3 = .ok (.iload_n 3, 1) := by decide +kernel
theorem d_La_router_4 : decode b_La_router 4 = .ok (.iload 4, 2) := by decide +kernel
theorem d_La_router_6 : decode b_La_router 6 = .ok (.invokevirtual 15, 3) := by decide +kernel
theorem d_La_router_9 : decode b_La_router 9 = .ok (.goto 11, 3) := by decide +kernel
theorem d_La_router_12 : decode b_La_router 12 = .ok (.astore 5, 2) := by decide +kernel
theorem d_La_router_14 : decode b_La_router 14 = .ok (.iconst 1, 1) := by decide +kernel
theorem d_La_router_15 : decode b_La_router 15 = .ok (.ireturn, 1) := by decide +kernel
theorem d_La_router_16 : decode b_La_router 16 = .ok (.astore 5, 2) := by decide +kernel
theorem d_La_router_18 : decode b_La_router 18 = .ok (.iconst 2, 1) := by decide +kernel
theorem d_La_router_19 : decode b_La_router 19 = .ok (.ireturn, 1) := by decide +kernel
theorem d_La_router_20 : decode b_La_router 20 = .ok (.iconst 0, 1) := by decide +kernel
theorem d_La_router_21 : decode b_La_router 21 = .ok (.ireturn, 1) := by decide +kernel
theorem d_Ho_router_0 : decode b_Ho_router 0 = .ok (.iload_n 1, 1) := by decide +kernel
theorem d_Ho_router_1 : decode b_Ho_router 1 = .ok (.iconst 1, 1) := by decide +kernel
theorem d_Ho_router_2 : decode b_Ho_router 2 = .ok (.sipush 254, 3) := by decide +kernel
theorem d_Ho_router_5 : decode b_Ho_router 5 = .ok (.invokestatic 89, 3) := by decide +kernel
theorem d_Ho_router_8 : decode b_Ho_router 8 = .ok (.ifCond .eq 32, 3) := by decide +kernel
theorem d_Ho_router_11 : decode b_Ho_router 11 = .ok (.iload_n 2, 1) := by decide +kernel
theorem d_Ho_router_12 : decode b_Ho_router 12 = .ok (.invokestatic 100, 3) := by decide +kernel
theorem d_Ho_router_15 : decode b_Ho_router 15 = .ok (.ifCond .eq 25, 3) := by decide +kernel
theorem d_Ho_router_18 : decode b_Ho_router 18 = .ok (.iload_n 3, 1) := by decide +kernel
theorem d_Ho_router_19 : decode b_Ho_router 19 = .ok (.invokestatic 104, 3) := by decide +kernel
theorem d_Ho_router_22 : decode b_Ho_router 22 = .ok (.ifCond .eq 18, 3) := by decide +kernel
theorem d_Ho_router_25 : decode b_Ho_router 25 = .ok (.iload 4, 2) := by decide +kernel
theorem d_Ho_router_27 : decode b_Ho_router 27 = .ok (.iconst 0, 1) := by decide +kernel
theorem d_Ho_router_28 : decode b_Ho_router 28 = .ok (.bipush 99, 2) := by decide +kernel
theorem d_Ho_router_30 : decode b_Ho_router 30 = .ok (.invokestatic 89, 3) := by decide +kernel
theorem d_Ho_router_33 : decode b_Ho_router 33 = .ok (.ifCond .eq 7, 3) := by decide +kernel
theorem d_Ho_router_36 : decode b_Ho_router 36 = .ok (.iconst 1, 1) := by decide +kernel
theorem d_Ho_router_37 : decode b_Ho_router 37 = .ok (.goto 4, 3) := by decide +kernel
theorem d_Ho_router_40 : decode b_Ho_router 40 = .ok (.iconst 0, 1) := by decide +kernel
theorem d_Ho_router_41 : decode b_Ho_router 41 = .ok (.invokestatic 93, 3) := by decide +kernel
theorem d_Ho_router_44 : decode b_Ho_router 44 = .ok (.aload_n 0, 1) := by decide +kernel
theorem d_Ho_router_45 : decode b_Ho_router 45 = .ok (.invokevirtual 107, 3) := by decide +kernel
theorem d_Ho_router_48 : decode b_Ho_router 48 = .ok (.iconst 1, 1) := by decide +kernel
theorem d_Ho_router_49 : decode b_Ho_router 49 = .ok (.iload_n 1, 1) := by decide +kernel
theorem d_Ho_router_50 : decode b_Ho_router 50 = .ok (.invokestatic 110, 3) := by decide +kernel
theorem d_Ho_router_53 : decode b_Ho_router 53 = .ok (.istore 5, 2) := by decide +kernel
theorem d_Ho_router_55 : decode b_Ho_router 55 = .ok (.aload_n 0, 1) := by decide +kernel
theorem d_Ho_router_56 : decode b_Ho_router 56 = .ok (.iload 5, 2) := by decide +kernel
theorem d_Ho_router_58 : decode b_Ho_router 58 = .ok (.iload_n 2, 1) := by decide +kernel
theorem d_Ho_router_59 : decode b_Ho_router 59 = .ok (.invokevirtual 113, 3) := by decide +kernel
theorem d_Ho_router_62 : decode b_Ho_router 62 = .ok (.iconst 1, 1) := by decide +kernel
theorem d_Ho_router_63 : decode b_Ho_router 63 = .ok (.putfield 117, 3) := by decide +kernel
theorem d_Ho_router_66 : decode b_Ho_router 66 = .ok (.iload_n 3, 1) := by decide +kernel
theorem d_Ho_router_67 : decode b_Ho_router 67 = .ok (.ifCond .ne 15, 3) := by decide +kernel
theorem d_Ho_router_70 : decode b_Ho_router 70 = .ok (.aload_n 0, 1) := by decide +kernel
theorem d_Ho_router_71 : decode b_Ho_router 71 = .ok (.getfield 35, 3) := by decide +kernel
theorem d_Ho_router_74 : decode b_Ho_router 74 = .ok (.iload 5, 2) := by decide +kernel
theorem d_Ho_router_76 : decode b_Ho_router 76 = .ok (.invokevirtual 122, 3) := by decide +kernel
theorem d_Ho_router_79 : decode b_Ho_router 79 = .ok (.goto 18, 3) := by decide +kernel
theorem d_Ho_router_82 : decode b_Ho_router 82 = .ok (.aload_n 0, 1) := by decide +kernel
theorem d_Ho_router_83 : decode b_Ho_router 83 = .ok (.getfield 35, 3) := by decide +kernel
theorem d_Ho_router_86 : decode b_Ho_router 86 = .ok (.iload 5, 2) := by decide +kernel
theorem d_Ho_router_88 : decode b_Ho_router 88 = .ok (.aload_n 0, 1) := by decide +kernel
theorem d_Ho_router_89 : decode b_Ho_router 89 = .ok (.iload_n 3, 1) := by decide +kernel
theorem d_Ho_router_90 : decode b_Ho_router 90 = .ok (.invokevirtual 125, 3) := by decide +kernel
theorem d_Ho_router_93 : decode b_Ho_router 93 = .ok (.iconst 0, 1) := by decide +kernel
theorem d_Ho_router_94 : decode b_Ho_router 94 = .ok (.invokevirtual 129, 3) := by decide +kernel
theorem d_Ho_router_97 : decode b_Ho_router 97 = .ok (.iload 4, 2) := by decide +kernel
theorem d_Ho_router_99 : decode b_Ho_router 99 = .ok (.bipush 8, 2) := by decide +kernel
theorem d_Ho_router_101 : decode b_Ho_router 101 = .ok (.bipush 40, 2) := by decide +kernel
theorem d_Ho_router_103 : decode b_Ho_router 103 = .ok (.invokestatic 89, 3) := by decide +kernel
theorem d_Ho_router_106 : decode b_Ho_router 106 = .ok (.ifCond .eq 9, 3) := by decide +kernel
theorem d_Ho_router_109 : decode b_Ho_router 109 = .ok (.aload_n 0, 1) := by decide +kernel
theorem d_Ho_router_110 : decode b_Ho_router 110 = .ok (.iload 4, 2) := by decide +kernel
theorem d_Ho_router_112 : decode b_Ho_router 112 = .ok (.putfield 56, 3) := by decide +kernel
theorem d_Ho_router_115 : decode b_Ho_router 115 = .ok (.return_, 1) := by decide +kernel
theorem d_Ho_isNumber_0 : decode b_Ho_isNumber 0 = .ok (.iload_n 0, 1) := by decide +kernel
theorem d_Ho_isNumber_1 : decode b_Ho_isNumber 1 = .ok (.iconst 1, 1) := by decide +kernel
theorem d_Ho_isNumber_2 : decode b_Ho_isNumber 2 = .ok (.bipush 99, 2) := by decide +kernel
theorem d_Ho_isNumber_4 : decode b_Ho_isNumber 4 = .ok (.invokestatic 89, 3) := by decide +kernel
theorem d_Ho_isNumber_7 : decode b_Ho_isNumber 7 = .ok (.ireturn, 1) := by decide +kernel
theorem d_Ho_isLife_0 : decode b_Ho_isLife 0 = .ok (.iload_n 0, 1) := by decide +kernel
theorem d_Ho_isLife_1 : decode b_Ho_isLife 1 = .ok (.iconst 0, 1) := by decide +kernel
theorem d_Ho_isLife_2 : decode b_Ho_isLife 2 = .ok (.sipush 1000, 3) := by decide +kernel
theorem d_Ho_isLife_5 : decode b_Ho_isLife 5 = .ok (.invokestatic 89, 3) := by decide +kernel
theorem d_Ho_isLife_8 : decode b_Ho_isLife 8 = .ok (.ireturn, 1) := by decide +kernel
theorem d_Ho_requireUp_0 : decode b_Ho_requireUp 0 = .ok (.aload_n 0, 1) := by decide +kernel
theorem d_Ho_requireUp_1 : decode b_Ho_requireUp 1 = .ok (.getfield 68, 3) := by decide +kernel
theorem d_Ho_requireUp_4 : decode b_Ho_requireUp 4 = .ok (.ifCond .eq 14, 3) := by decide +kernel
theorem d_Ho_requireUp_7 : decode b_Ho_requireUp 7 = .ok (.new 193, 3) := by decide +kernel
theorem d_Ho_requireUp_10 : decode b_Ho_requireUp 10 = .ok (.dup, 1) := by decide +kernel
theorem d_Ho_requireUp_11 : decode b_Ho_requireUp 11 = .ok (.ldc_w 275, 3) := by decide +kernel
theorem d_Ho_requireUp_14 : decode b_Ho_requireUp 14 = .ok (.invokespecial 197, 3) := by decide +kernel
theorem d_Ho_requireUp_17 : decode b_Ho_requireUp 17 = .ok (.athrow, 1) := by decide +kernel
theorem d_Ho_requireUp_18 : decode b_Ho_requireUp 18 = .ok (.return_, 1) := by decide +kernel
theorem d_Ho_learnNumber_0 : decode b_Ho_learnNumber 0 = .ok (.aload_n 0, 1) := by decide +kernel
theorem d_Ho_learnNumber_1 : decode b_Ho_learnNumber 1 = .ok (.getfield 26, 3) := by decide +kernel
theorem d_Ho_learnNumber_4 : decode b_Ho_learnNumber 4 = .ok (.iload_n 1, 1) := by decide +kernel
theorem d_Ho_learnNumber_5 : decode b_Ho_learnNumber 5 = .ok (.invokevirtual 163, 3) := by decide +kernel
theorem d_Ho_learnNumber_8 : decode b_Ho_learnNumber 8 = .ok (.astore_n 3, 1) := by decide +kernel
theorem d_Ho_learnNumber_9 : decode b_Ho_learnNumber 9 = .ok (.aload_n 3, 1) := by decide +kernel
theorem d_Ho_learnNumber_10 : decode b_Ho_learnNumber 10 = .ok (.ifnonnull 31, 3) := by decide +kernel
theorem d_Ho_learnNumber_13 : decode b_Ho_learnNumber 13 = .ok (.new 118, 3) := by decide +kernel
theorem d_Ho_learnNumber_16 : decode b_Ho_learnNumber 16 = .ok (.dup, 1) := by decide +kernel
theorem d_Ho_learnNumber_17 : decode b_Ho_learnNumber 17 = .ok (.iload_n 1, 1) := by decide +kernel
theorem d_Ho_learnNumber_18 : decode b_Ho_learnNumber 18 = .ok (.iload_n 2, 1) := by decide +kernel
theorem d_Ho_learnNumber_19 : decode b_Ho_learnNumber 19 = .ok (.iconst 3, 1) := by decide +kernel
theorem d_Ho_learnNumber_20 : decode b_Ho_learnNumber 20 = .ok (.aload_n 0, 1) := by decide +kernel
theorem d_Ho_learnNumber_21 : decode b_Ho_learnNumber 21 = .ok (.getfield 52, 3) := by decide +kernel
theorem d_Ho_learnNumber_24 : decode b_Ho_learnNumber 24 = .ok (.invokespecial 325, 3) := by decide +kernel
theorem d_Ho_learnNumber_27 : decode b_Ho_learnNumber 27 = .ok (.astore 4, 2) := by decide +kernel
theorem d_Ho_learnNumber_29 : decode b_Ho_learnNumber 29 = .ok (.aload_n 0, 1) := by decide +kernel
theorem d_Ho_learnNumber_30 : decode b_Ho_learnNumber 30 = .ok (.getfield 26, 3) := by decide +kernel
theorem d_Ho_learnNumber_33 : decode b_Ho_learnNumber 33 = .ok (.aload 4, 2) := by decide +kernel
theorem d_Ho_learnNumber_35 : decode b_Ho_learnNumber 35 = .ok (.invokevirtual 328, 3) := by decide +kernel
theorem d_Ho_learnNumber_38 : decode b_Ho_learnNumber 38 = .ok (.aload 4, 2) := by decide +kernel
theorem d_Ho_learnNumber_40 : decode b_Ho_learnNumber 40 = .ok (.areturn, 1) := by decide +kernel
theorem d_Ho_learnNumber_41 : decode b_Ho_learnNumber 41 = .ok (.aload_n 3, 1) := by decide +kernel
theorem d_Ho_learnNumber_42 : decode b_Ho_learnNumber 42 = .ok (.getfield 236, 3) := by decide +kernel
theorem d_Ho_learnNumber_45 : decode b_Ho_learnNumber 45 = .ok (.iconst 1, 1) := by decide +kernel
theorem d_Ho_learnNumber_46 : decode b_Ho_learnNumber 46 = .ok (.if_icmp .eq 11, 3) := by decide +kernel
theorem d_Ho_learnNumber_49 : decode b_Ho_learnNumber 49 = .ok (.aload_n 3, 1) := by decide +kernel
theorem d_Ho_learnNumber_50 : decode b_Ho_learnNumber 50 = .ok (.getfield 237, 3) := by decide +kernel
theorem d_Ho_learnNumber_53 : decode b_Ho_learnNumber 53 = .ok (.iload_n 2, 1) := by decide +kernel
theorem d_Ho_learnNumber_54 : decode b_Ho_learnNumber 54 = .ok (.if_icmp .eq 22, 3) := by decide +kernel
theorem d_Ho_learnNumber_57 : decode b_Ho_learnNumber 57 = .ok (.aload_n 3, 1) := by decide +kernel
theorem d_Ho_learnNumber_58 : decode b_Ho_learnNumber 58 = .ok (.iload_n 2, 1) := by decide +kernel
theorem d_Ho_learnNumber_59 : decode b_Ho_learnNumber 59 = .ok (.putfield 237, 3) := by decide +kernel
theorem d_Ho_learnNumber_62 : decode b_Ho_learnNumber 62 = .ok (.aload_n 3, 1) := by decide +kernel
theorem d_Ho_learnNumber_63 : decode b_Ho_learnNumber 63 = .ok (.iconst 3, 1) := by decide +kernel
theorem d_Ho_learnNumber_64 : decode b_Ho_learnNumber 64 = .ok (.aload_n 0, 1) := by decide +kernel
theorem d_Ho_learnNumber_65 : decode b_Ho_learnNumber 65 = .ok (.getfield 52, 3) := by decide +kernel
theorem d_Ho_learnNumber_68 : decode b_Ho_learnNumber 68 = .ok (.invokevirtual 314, 3) := by decide +kernel
theorem d_Ho_learnNumber_71 : decode b_Ho_learnNumber 71 = .ok (.aload_n 0, 1) := by decide +kernel
theorem d_Ho_learnNumber_72 : decode b_Ho_learnNumber 72 = .ok (.aload_n 3, 1) := by decide +kernel
theorem d_Ho_learnNumber_73 : decode b_Ho_learnNumber 73 = .ok (.invokevirtual 330, 3) := by decide +kernel
theorem d_Ho_learnNumber_76 : decode b_Ho_learnNumber 76 = .ok (.aload_n 3, 1) := by decide +kernel
theorem d_Ho_learnNumber_77 : decode b_Ho_learnNumber 77 = .ok (.areturn, 1) := by decide +kernel
theorem d_Ne_init_0 : decode b_Ne_init 0 = .ok (.aload_n 0, 1) := by decide +kernel
theorem d_Ne_init_1 : decode b_Ne_init 1 = .ok (.invokespecial 3, 3) := by decide +kernel
theorem d_Ne_init_4 : decode b_Ne_init 4 = .ok (.aload_n 0, 1) := by decide +kernel
theorem d_Ne_init_5 : decode b_Ne_init 5 = .ok (.iconst 0, 1) := by decide +kernel
theorem d_Ne_init_6 : decode b_Ne_init 6 = .ok (.putfield 9, 3) := by decide +kernel
theorem d_Ne_init_9 : decode b_Ne_init 9 = .ok (.aload_n 0, 1) := by decide +kernel
theorem d_Ne_init_10 : decode b_Ne_init 10 = .ok (.iconst 0, 1) := by decide +kernel
theorem d_Ne_init_11 : decode b_Ne_init 11 = .ok (.putfield 15, 3) := by decide +kernel
theorem d_Ne_init_14 : decode b_Ne_init 14 = .ok (.aload_n 0, 1) := by decide +kernel
theorem d_Ne_init_15 : decode b_Ne_init 15 = .ok (.iload_n 1, 1) := by decide +kernel
theorem d_Ne_init_16 : decode b_Ne_init 16 = .ok (.putfield 19, 3) := by decide +kernel
theorem d_Ne_init_19 : decode b_Ne_init 19 = .ok (.aload_n 0, 1) := by decide +kernel
theorem d_Ne_init_20 : decode b_Ne_init 20 = .ok (.iload_n 2, 1) := by decide +kernel
theorem d_Ne_init_21 : decode b_Ne_init 21 = .ok (.putfield 22, 3) := by decide +kernel
theorem d_Ne_init_24 : decode b_Ne_init 24 = .ok (.aload_n 0, 1) := by decide +kernel
theorem d_Ne_init_25 : decode b_Ne_init 25 = .ok (.iload_n 3, 1) := by decide +kernel
theorem d_Ne_init_26 : decode b_Ne_init 26 = .ok (.putfield 25, 3) := by decide +kernel
theorem d_Ne_init_29 : decode b_Ne_init 29 = .ok (.aload_n 0, 1) := by decide +kernel
theorem d_Ne_init_30 : decode b_Ne_init 30 = .ok (.iload 4, 2) := by decide +kernel
theorem d_Ne_init_32 : decode b_Ne_init 32 = .ok (.putfield 28, 3) := by decide +kernel
theorem d_Ne_init_35 : decode b_Ne_init 35 = .ok (.return_, 1) := by decide +kernel
theorem d_Nr_add_0 : decode b_Nr_add 0 = .ok (.aload_n 0, 1) := by decide +kernel
theorem d_Nr_add_1 : decode b_Nr_add 1 = .ok (.getfield 12, 3) := by decide +kernel
theorem d_Nr_add_4 : decode b_Nr_add 4 = .ok (.invokevirtual 18, 3) := by decide +kernel
theorem d_Nr_add_7 : decode b_Nr_add 7 = .ok (.bipush 6, 2) := by decide +kernel
theorem d_Nr_add_9 : decode b_Nr_add 9 = .ok (.if_icmp .lt 12, 3) := by decide +kernel
theorem d_Nr_add_12 : decode b_Nr_add 12 = .ok (.aload_n 0, 1) := by decide +kernel
theorem d_Nr_add_13 : decode b_Nr_add 13 = .ok (.getfield 12, 3) := by decide +kernel
theorem d_Nr_add_16 : decode b_Nr_add 16 = .ok (.iconst 0, 1) := by decide +kernel
theorem d_Nr_add_17 : decode b_Nr_add 17 = .ok (.invokevirtual 28, 3) := by decide +kernel
theorem d_Nr_add_20 : decode b_Nr_add 20 = .ok (.pop, 1) := by decide +kernel
theorem d_Nr_add_21 : decode b_Nr_add 21 = .ok (.aload_n 0, 1) := by decide +kernel
theorem d_Nr_add_22 : decode b_Nr_add 22 = .ok (.getfield 12, 3) := by decide +kernel
theorem d_Nr_add_25 : decode b_Nr_add 25 = .ok (.aload_n 1, 1) := by decide +kernel
theorem d_Nr_add_26 : decode b_Nr_add 26 = .ok (.invokevirtual 31, 3) := by decide +kernel
theorem d_Nr_add_29 : decode b_Nr_add 29 = .ok (.pop, 1) := by decide +kernel
theorem d_Nr_add_30 : decode b_Nr_add 30 = .ok (.return_, 1) := by decide +kernel
theorem d_Ho_sendWaiting_0 : decode b_Ho_sendWaiting 0 = .ok (.aload_n 1, 1) := by decide +kernel
theorem d_Ho_sendWaiting_1 : decode b_Ho_sendWaiting 1 = .ok (.invokevirtual 240, 3) := by decide +kernel
theorem d_Ho_sendWaiting_4 : decode b_Ho_sendWaiting 4 = .ok (.ifCond .eq 17, 3) := by decide +kernel
theorem d_Ho_sendWaiting_7 : decode b_Ho_sendWaiting 7 = .ok (.aload_n 0, 1) := by decide +kernel
theorem d_Ho_sendWaiting_8 : decode b_Ho_sendWaiting 8 = .ok (.aload_n 1, 1) := by decide +kernel
theorem d_Ho_sendWaiting_9 : decode b_Ho_sendWaiting 9 = .ok (.aload_n 1, 1) := by decide +kernel
theorem d_Ho_sendWaiting_10 : decode b_Ho_sendWaiting 10 = .ok (.getfield 343, 3) := by decide +kernel
theorem d_Ho_sendWaiting_13 : decode b_Ho_sendWaiting 13 = .ok (.invokevirtual 346, 3) := by decide +kernel
theorem d_Ho_sendWaiting_16 : decode b_Ho_sendWaiting 16 = .ok (.aload_n 1, 1) := by decide +kernel
theorem d_Ho_sendWaiting_17 : decode b_Ho_sendWaiting 17 = .ok (.iconst 0, 1) := by decide +kernel
theorem d_Ho_sendWaiting_18 : decode b_Ho_sendWaiting 18 = .ok (.putfield 343, 3) := by decide +kernel
theorem d_Ho_sendWaiting_21 : decode b_Ho_sendWaiting 21 = .ok (.return_, 1) := by decide +kernel
theorem d_Ho_deliver_0 : decode b_Ho_deliver 0 = .ok (.aload_n 0, 1) := by decide +kernel
theorem d_Ho_deliver_1 : decode b_Ho_deliver 1 = .ok (.getfield 10, 3) := by decide +kernel
theorem d_Ho_deliver_4 : decode b_Ho_deliver 4 = .ok (.iconst 4, 1) := by decide +kernel
theorem d_Ho_deliver_5 : decode b_Ho_deliver 5 = .ok (.aload_n 1, 1) := by decide +kernel
theorem d_Ho_deliver_6 : decode b_Ho_deliver 6 = .ok (.getfield 337, 3) := by decide +kernel
theorem d_Ho_deliver_9 : decode b_Ho_deliver 9 = .ok (.iload_n 2, 1) := by decide +kernel
theorem d_Ho_deliver_10 : decode b_Ho_deliver 10 = .ok (.invokevirtual 153, 3) := by decide +kernel
theorem d_Ho_deliver_13 : decode b_Ho_deliver 13 = .ok (.aload_n 1, 1) := by decide +kernel
theorem d_Ho_deliver_14 : decode b_Ho_deliver 14 = .ok (.getfield 236, 3) := by decide +kernel
theorem d_Ho_deliver_17 : decode b_Ho_deliver 17 = .ok (.iconst 3, 1) := by decide +kernel
theorem d_Ho_deliver_18 : decode b_Ho_deliver 18 = .ok (.if_icmp .ne 12, 3) := by decide +kernel
theorem d_Ho_deliver_21 : decode b_Ho_deliver 21 = .ok (.aload_n 1, 1) := by decide +kernel
theorem d_Ho_deliver_22 : decode b_Ho_deliver 22 = .ok (.iconst 4, 1) := by decide +kernel
theorem d_Ho_deliver_23 : decode b_Ho_deliver 23 = .ok (.aload_n 0, 1) := by decide +kernel
theorem d_Ho_deliver_24 : decode b_Ho_deliver 24 = .ok (.getfield 52, 3) := by decide +kernel
theorem d_Ho_deliver_27 : decode b_Ho_deliver 27 = .ok (.invokevirtual 314, 3) := by decide +kernel
theorem d_Ho_deliver_30 : decode b_Ho_deliver 30 = .ok (.return_, 1) := by decide +kernel
theorem d_Tr_drop_0 : decode b_Tr_drop 0 = .ok (.aload_n 0, 1) := by decide +kernel
theorem d_Tr_drop_1 : decode b_Tr_drop 1 = .ok (.getfield 10, 3) := by decide +kernel
theorem d_Tr_drop_4 : decode b_Tr_drop 4 = .ok (.invokevirtual 20, 3) := by decide +kernel
theorem d_Tr_drop_7 : decode b_Tr_drop 7 = .ok (.iconst 1, 1) := by decide +kernel
theorem d_Tr_drop_8 : decode b_Tr_drop 8 = .ok (.isub, 1) := by decide +kernel
theorem d_Tr_drop_9 : decode b_Tr_drop 9 = .ok (.istore_n 2, 1) := by decide +kernel
theorem d_Tr_drop_10 : decode b_Tr_drop 10 = .ok (.iload_n 2, 1) := by decide +kernel
theorem d_Tr_drop_11 : decode b_Tr_drop 11 = .ok (.ifCond .lt 36, 3) := by decide +kernel
theorem d_Tr_drop_14 : decode b_Tr_drop 14 = .ok (.aload_n 0, 1) := by decide +kernel
theorem d_Tr_drop_15 : decode b_Tr_drop 15 = .ok (.getfield 10, 3) := by decide +kernel
theorem d_Tr_drop_18 : decode b_Tr_drop 18 = .ok (.iload_n 2, 1) := by decide +kernel
theorem d_Tr_drop_19 : decode b_Tr_drop 19 = .ok (.invokevirtual 24, 3) := by decide +kernel
theorem d_Tr_drop_22 : decode b_Tr_drop 22 = .ok (.checkcast 28, 3) := by decide +kernel
theorem d_Tr_drop_25 : decode b_Tr_drop 25 = .ok (.getfield 30, 3) := by decide +kernel
theorem d_Tr_drop_28 : decode b_Tr_drop 28 = .ok (.iload_n 1, 1) := by decide +kernel
theorem d_Tr_drop_29 : decode b_Tr_drop 29 = .ok (.if_icmp .ne 12, 3) := by decide +kernel
theorem d_Tr_drop_32 : decode b_Tr_drop 32 = .ok (.aload_n 0, 1) := by decide +kernel
theorem d_Tr_drop_33 : decode b_Tr_drop 33 = .ok (.getfield 10, 3) := by decide +kernel
theorem d_Tr_drop_36 : decode b_Tr_drop 36 = .ok (.iload_n 2, 1) := by decide +kernel
theorem d_Tr_drop_37 : decode b_Tr_drop 37 = .ok (.invokevirtual 46, 3) := by decide +kernel
theorem d_Tr_drop_40 : decode b_Tr_drop 40 = .ok (.pop, 1) := by decide +kernel
theorem d_Tr_drop_41 : decode b_Tr_drop 41 = .ok (.iinc 2 (-1), 3) := by decide +kernel
theorem d_Tr_drop_44 : decode b_Tr_drop 44 = .ok (.goto (-34), 3) := by decide +kernel
theorem d_Tr_drop_47 : decode b_Tr_drop 47 = .ok (.return_, 1) := by decide +kernel
theorem d_Ho_endOf_0 : decode b_Ho_endOf 0 = .ok (.iload_n 1, 1) := by decide +kernel
theorem d_Ho_endOf_1 : decode b_Ho_endOf 1 = .ok (.sipush 1000, 3) := by decide +kernel
theorem d_Ho_endOf_4 : decode b_Ho_endOf 4 = .ok (.if_icmp .ne 8, 3) := by decide +kernel
theorem d_Ho_endOf_7 : decode b_Ho_endOf 7 = .ok (.ldc 84, 2) := by decide +kernel
theorem d_Ho_endOf_9 : decode b_Ho_endOf 9 = .ok (.goto 9, 3) := by decide +kernel
theorem d_Ho_endOf_12 : decode b_Ho_endOf 12 = .ok (.aload_n 0, 1) := by decide +kernel
theorem d_Ho_endOf_13 : decode b_Ho_endOf 13 = .ok (.getfield 52, 3) := by decide +kernel
theorem d_Ho_endOf_16 : decode b_Ho_endOf 16 = .ok (.iload_n 1, 1) := by decide +kernel
theorem d_Ho_endOf_17 : decode b_Ho_endOf 17 = .ok (.iadd, 1) := by decide +kernel
theorem d_Ho_endOf_18 : decode b_Ho_endOf 18 = .ok (.ireturn, 1) := by decide +kernel
theorem d_Tr_keep_0 : decode b_Tr_keep 0 = .ok (.aload_n 0, 1) := by decide +kernel
theorem d_Tr_keep_1 : decode b_Tr_keep 1 = .ok (.iload_n 1, 1) := by decide +kernel
theorem d_Tr_keep_2 : decode b_Tr_keep 2 = .ok (.invokevirtual 33, 3) := by decide +kernel
theorem d_Tr_keep_5 : decode b_Tr_keep 5 = .ok (.astore 4, 2) := by decide +kernel
theorem d_Tr_keep_7 : decode b_Tr_keep 7 = .ok (.aload 4, 2) := by decide +kernel
theorem d_Tr_keep_9 : decode b_Tr_keep 9 = .ok (.ifnull 16, 3) := by decide +kernel
theorem d_Tr_keep_12 : decode b_Tr_keep 12 = .ok (.aload 4, 2) := by decide +kernel
theorem d_Tr_keep_14 : decode b_Tr_keep 14 = .ok (.iload_n 2, 1) := by decide +kernel
theorem d_Tr_keep_15 : decode b_Tr_keep 15 = .ok (.putfield 37, 3) := by decide +kernel
theorem d_Tr_keep_18 : decode b_Tr_keep 18 = .ok (.aload 4, 2) := by decide +kernel
theorem d_Tr_keep_20 : decode b_Tr_keep 20 = .ok (.iload_n 3, 1) := by decide +kernel
theorem d_Tr_keep_21 : decode b_Tr_keep 21 = .ok (.putfield 40, 3) := by decide +kernel
theorem d_Tr_keep_24 : decode b_Tr_keep 24 = .ok (.return_, 1) := by decide +kernel
theorem d_Tr_keep_25 : decode b_Tr_keep 25 = .ok (.aload_n 0, 1) := by decide +kernel
theorem d_Tr_keep_26 : decode b_Tr_keep 26 = .ok (.getfield 10, 3) := by decide +kernel
theorem d_Tr_keep_29 : decode b_Tr_keep 29 = .ok (.invokevirtual 20, 3) := by decide +kernel
theorem d_Tr_keep_32 : decode b_Tr_keep 32 = .ok (.aload_n 0, 1) := by decide +kernel
theorem d_Tr_keep_33 : decode b_Tr_keep 33 = .ok (.getfield 16, 3) := by decide +kernel
theorem d_Tr_keep_36 : decode b_Tr_keep 36 = .ok (.if_icmp .lt 22, 3) := by decide +kernel
theorem d_Tr_keep_39 : decode b_Tr_keep 39 = .ok (.aload_n 0, 1) := by decide +kernel
theorem d_Tr_keep_40 : decode b_Tr_keep 40 = .ok (.getfield 10, 3) := by decide +kernel
theorem d_Tr_keep_43 : decode b_Tr_keep 43 = .ok (.invokevirtual 42, 3) := by decide +kernel
theorem d_Tr_keep_46 : decode b_Tr_keep 46 = .ok (.ifCond .ne 12, 3) := by decide +kernel
theorem d_Tr_keep_49 : decode b_Tr_keep 49 = .ok (.aload_n 0, 1) := by decide +kernel
theorem d_Tr_keep_50 : decode b_Tr_keep 50 = .ok (.getfield 10, 3) := by decide +kernel
theorem d_Tr_keep_53 : decode b_Tr_keep 53 = .ok (.iconst 0, 1) := by decide +kernel
theorem d_Tr_keep_54 : decode b_Tr_keep 54 = .ok (.invokevirtual 46, 3) := by decide +kernel
theorem d_Tr_keep_57 : decode b_Tr_keep 57 = .ok (.pop, 1) := by decide +kernel
theorem d_Tr_keep_58 : decode b_Tr_keep 58 = .ok (.aload_n 0, 1) := by decide +kernel
theorem d_Tr_keep_59 : decode b_Tr_keep 59 = .ok (.getfield 10, 3) := by decide +kernel
theorem d_Tr_keep_62 : decode b_Tr_keep 62 = .ok (.new 28, 3) := by decide +kernel
theorem d_Tr_keep_65 : decode b_Tr_keep 65 = .ok (.dup, 1) := by decide +kernel
theorem d_Tr_keep_66 : decode b_Tr_keep 66 = .ok (.iload_n 1, 1) := by decide +kernel
theorem d_Tr_keep_67 : decode b_Tr_keep 67 = .ok (.iload_n 2, 1) := by decide +kernel
theorem d_Tr_keep_68 : decode b_Tr_keep 68 = .ok (.iload_n 3, 1) := by decide +kernel
theorem d_Tr_keep_69 : decode b_Tr_keep 69 = .ok (.invokespecial 49, 3) := by decide +kernel
theorem d_Tr_keep_72 : decode b_Tr_keep 72 = .ok (.invokevirtual 52, 3) := by decide +kernel
theorem d_Tr_keep_75 : decode b_Tr_keep 75 = .ok (.pop, 1) := by decide +kernel
theorem d_Tr_keep_76 : decode b_Tr_keep 76 = .ok (.return_, 1) := by decide +kernel
theorem d_Al_isEmpty_0 : decode b_Al_isEmpty 0 = .ok (.aload_n 0, 1) := by decide +kernel
theorem d_Al_isEmpty_1 : decode b_Al_isEmpty 1 = .ok (.getfield 48, 3) := by decide +kernel
theorem d_Al_isEmpty_4 : decode b_Al_isEmpty 4 = .ok (.ifCond .ne 7, 3) := by decide +kernel
theorem d_Al_isEmpty_7 : decode b_Al_isEmpty 7 = .ok (.iconst 1, 1) := by decide +kernel
theorem d_Al_isEmpty_8 : decode b_Al_isEmpty 8 = .ok (.goto 4, 3) := by decide +kernel
theorem d_Al_isEmpty_11 : decode b_Al_isEmpty 11 = .ok (.iconst 0, 1) := by decide +kernel
theorem d_Al_isEmpty_12 : decode b_Al_isEmpty 12 = .ok (.ireturn, 1) := by decide +kernel
theorem d_Ti_init_0 : decode b_Ti_init 0 = .ok (.aload_n 0, 1) := by decide +kernel
theorem d_Ti_init_1 : decode b_Ti_init 1 = .ok (.invokespecial 1, 3) := by decide +kernel
theorem d_Ti_init_4 : decode b_Ti_init 4 = .ok (.aload_n 0, 1) := by decide +kernel
theorem d_Ti_init_5 : decode b_Ti_init 5 = .ok (.iload_n 1, 1) := by decide +kernel
theorem d_Ti_init_6 : decode b_Ti_init 6 = .ok (.putfield 7, 3) := by decide +kernel
theorem d_Ti_init_9 : decode b_Ti_init 9 = .ok (.aload_n 0, 1) := by decide +kernel
theorem d_Ti_init_10 : decode b_Ti_init 10 = .ok (.iload_n 2, 1) := by decide +kernel
theorem d_Ti_init_11 : decode b_Ti_init 11 = .ok (.putfield 13, 3) := by decide +kernel
theorem d_Ti_init_14 : decode b_Ti_init 14 = .ok (.aload_n 0, 1) := by decide +kernel
theorem d_Ti_init_15 : decode b_Ti_init 15 = .ok (.iload_n 3, 1) := by decide +kernel
theorem d_Ti_init_16 : decode b_Ti_init 16 = .ok (.putfield 16, 3) := by decide +kernel
theorem d_Ti_init_19 : decode b_Ti_init 19 = .ok (.return_, 1) := by decide +kernel
theorem d_La_prefix_0 : decode b_La_prefix 0 = .ok (.aload_n 0, 1) := by decide +kernel
theorem d_La_prefix_1 : decode b_La_prefix 1 = .ok (.iload_n 1, 1) := by decide +kernel
theorem d_La_prefix_2 : decode b_La_prefix 2 = .ok (.iload_n 2, 1) := by decide +kernel
theorem d_La_prefix_3 : decode b_La_prefix 3 = .ok (.iload_n 3, 1) := by decide +kernel
theorem d_La_prefix_4 : decode b_La_prefix 4 = .ok (.iload 4, 2) := by decide +kernel
theorem d_La_prefix_6 : decode b_La_prefix 6 = .ok (.invokevirtual 21, 3) := by decide +kernel
theorem d_La_prefix_9 : decode b_La_prefix 9 = .ok (.goto 11, 3) := by decide +kernel
theorem d_La_prefix_12 : decode b_La_prefix 12 = .ok (.astore 5, 2) := by decide +kernel
theorem d_La_prefix_14 : decode b_La_prefix 14 = .ok (.iconst 1, 1) := by decide +kernel
theorem d_La_prefix_15 : decode b_La_prefix 15 = .ok (.ireturn, 1) := by decide +kernel
theorem d_La_prefix_16 : decode b_La_prefix 16 = .ok (.astore 5, 2) := by decide +kernel
theorem d_La_prefix_18 : decode b_La_prefix 18 = .ok (.iconst 2, 1) := by decide +kernel
theorem d_La_prefix_19 : decode b_La_prefix 19 = .ok (.ireturn, 1) := by decide +kernel
theorem d_La_prefix_20 : decode b_La_prefix 20 = .ok (.iconst 0, 1) := by decide +kernel
theorem d_La_prefix_21 : decode b_La_prefix 21 = .ok (.ireturn, 1) := by decide +kernel
theorem d_Ho_prefix_0 : decode b_Ho_prefix 0 = .ok (.iload_n 1, 1) := by decide +kernel
theorem d_Ho_prefix_1 : decode b_Ho_prefix 1 = .ok (.iconst 1, 1) := by decide +kernel
theorem d_Ho_prefix_2 : decode b_Ho_prefix 2 = .ok (.sipush 250, 3) := by decide +kernel
theorem d_Ho_prefix_5 : decode b_Ho_prefix 5 = .ok (.invokestatic 89, 3) := by decide +kernel
theorem d_Ho_prefix_8 : decode b_Ho_prefix 8 = .ok (.ifCond .eq 31, 3) := by decide +kernel
theorem d_Ho_prefix_11 : decode b_Ho_prefix 11 = .ok (.iload_n 2, 1) := by decide +kernel
theorem d_Ho_prefix_12 : decode b_Ho_prefix 12 = .ok (.iconst 0, 1) := by decide +kernel
theorem d_Ho_prefix_13 : decode b_Ho_prefix 13 = .ok (.iconst 3, 1) := by decide +kernel
theorem d_Ho_prefix_14 : decode b_Ho_prefix 14 = .ok (.invokestatic 89, 3) := by decide +kernel
theorem d_Ho_prefix_17 : decode b_Ho_prefix 17 = .ok (.ifCond .eq 22, 3) := by decide +kernel
theorem d_Ho_prefix_20 : decode b_Ho_prefix 20 = .ok (.iload_n 3, 1) := by decide +kernel
theorem d_Ho_prefix_21 : decode b_Ho_prefix 21 = .ok (.invokestatic 104, 3) := by decide +kernel
theorem d_Ho_prefix_24 : decode b_Ho_prefix 24 = .ok (.ifCond .eq 15, 3) := by decide +kernel
theorem d_Ho_prefix_27 : decode b_Ho_prefix 27 = .ok (.iload 4, 2) := by decide +kernel
theorem d_Ho_prefix_29 : decode b_Ho_prefix 29 = .ok (.invokestatic 104, 3) := by decide +kernel
theorem d_Ho_prefix_32 : decode b_Ho_prefix 32 = .ok (.ifCond .eq 7, 3) := by decide +kernel
theorem d_Ho_prefix_35 : decode b_Ho_prefix 35 = .ok (.iconst 1, 1) := by decide +kernel
theorem d_Ho_prefix_36 : decode b_Ho_prefix 36 = .ok (.goto 4, 3) := by decide +kernel
theorem d_Ho_prefix_39 : decode b_Ho_prefix 39 = .ok (.iconst 0, 1) := by decide +kernel
theorem d_Ho_prefix_40 : decode b_Ho_prefix 40 = .ok (.invokestatic 93, 3) := by decide +kernel
theorem d_Ho_prefix_43 : decode b_Ho_prefix 43 = .ok (.aload_n 0, 1) := by decide +kernel
theorem d_Ho_prefix_44 : decode b_Ho_prefix 44 = .ok (.invokevirtual 107, 3) := by decide +kernel
theorem d_Ho_prefix_47 : decode b_Ho_prefix 47 = .ok (.iload_n 1, 1) := by decide +kernel
theorem d_Ho_prefix_48 : decode b_Ho_prefix 48 = .ok (.iconst 1, 1) := by decide +kernel
theorem d_Ho_prefix_49 : decode b_Ho_prefix 49 = .ok (.if_icmp .ne 4, 3) := by decide +kernel
theorem d_Ho_prefix_52 : decode b_Ho_prefix 52 = .ok (.return_, 1) := by decide +kernel
theorem d_Ho_prefix_53 : decode b_Ho_prefix 53 = .ok (.iload_n 2, 1) := by decide +kernel
theorem d_Ho_prefix_54 : decode b_Ho_prefix 54 = .ok (.iconst 1, 1) := by decide +kernel
theorem d_Ho_prefix_55 : decode b_Ho_prefix 55 = .ok (.iand, 1) := by decide +kernel
theorem d_Ho_prefix_56 : decode b_Ho_prefix 56 = .ok (.ifCond .eq 9, 3) := by decide +kernel
theorem d_Ho_prefix_59 : decode b_Ho_prefix 59 = .ok (.aload_n 0, 1) := by decide +kernel
theorem d_Ho_prefix_60 : decode b_Ho_prefix 60 = .ok (.iload_n 1, 1) := by decide +kernel
theorem d_Ho_prefix_61 : decode b_Ho_prefix 61 = .ok (.iload_n 3, 1) := by decide +kernel
theorem d_Ho_prefix_62 : decode b_Ho_prefix 62 = .ok (.invokevirtual 132, 3) := by decide +kernel
theorem d_Ho_prefix_65 : decode b_Ho_prefix 65 = .ok (.iload_n 2, 1) := by decide +kernel
theorem d_Ho_prefix_66 : decode b_Ho_prefix 66 = .ok (.iconst 2, 1) := by decide +kernel
theorem d_Ho_prefix_67 : decode b_Ho_prefix 67 = .ok (.iand, 1) := by decide +kernel
theorem d_Ho_prefix_68 : decode b_Ho_prefix 68 = .ok (.ifCond .eq 17, 3) := by decide +kernel
theorem d_Ho_prefix_71 : decode b_Ho_prefix 71 = .ok (.iload 4, 2) := by decide +kernel
theorem d_Ho_prefix_73 : decode b_Ho_prefix 73 = .ok (.iload_n 3, 1) := by decide +kernel
theorem d_Ho_prefix_74 : decode b_Ho_prefix 74 = .ok (.if_icmp .gt 11, 3) := by decide +kernel
theorem d_Ho_prefix_77 : decode b_Ho_prefix 77 = .ok (.aload_n 0, 1) := by decide +kernel
theorem d_Ho_prefix_78 : decode b_Ho_prefix 78 = .ok (.iload_n 1, 1) := by decide +kernel
theorem d_Ho_prefix_79 : decode b_Ho_prefix 79 = .ok (.iload_n 3, 1) := by decide +kernel
theorem d_Ho_prefix_80 : decode b_Ho_prefix 80 = .ok (.iload 4, 2) := by decide +kernel
theorem d_Ho_prefix_82 : decode b_Ho_prefix 82 = .ok (.invokevirtual 136, 3) := by decide +kernel
theorem d_Ho_prefix_85 : decode b_Ho_prefix 85 = .ok (.return_, 1) := by decide +kernel
theorem d_Ho_hearOnLink_0 : decode b_Ho_hearOnLink 0 = .ok (.iload_n 2, 1) := by decide +kernel
theorem d_Ho_hearOnLink_1 : decode b_Ho_hearOnLink 1 = .ok (.ifCond .ne 14, 3) := by decide +kernel
theorem d_Ho_hearOnLink_4 : decode b_Ho_hearOnLink 4 = .ok (.aload_n 0, 1) := by decide +kernel
theorem d_Ho_hearOnLink_5 : decode b_Ho_hearOnLink 5 = .ok (.getfield 39, 3) := by decide +kernel
theorem d_Ho_hearOnLink_8 : decode b_Ho_hearOnLink 8 = .ok (.iload_n 1, 1) := by decide +kernel
theorem d_Ho_hearOnLink_9 : decode b_Ho_hearOnLink 9 = .ok (.invokevirtual 122, 3) := by decide +kernel
theorem d_Ho_hearOnLink_12 : decode b_Ho_hearOnLink 12 = .ok (.goto 17, 3) := by decide +kernel
theorem d_Ho_hearOnLink_15 : decode b_Ho_hearOnLink 15 = .ok (.aload_n 0, 1) := by decide +kernel
theorem d_Ho_hearOnLink_16 : decode b_Ho_hearOnLink 16 = .ok (.getfield 39, 3) := by decide +kernel
theorem d_Ho_hearOnLink_19 : decode b_Ho_hearOnLink 19 = .ok (.iload_n 1, 1) := by decide +kernel
theorem d_Ho_hearOnLink_20 : decode b_Ho_hearOnLink 20 = .ok (.aload_n 0, 1) := by decide +kernel
theorem d_Ho_hearOnLink_21 : decode b_Ho_hearOnLink 21 = .ok (.iload_n 2, 1) := by decide +kernel
theorem d_Ho_hearOnLink_22 : decode b_Ho_hearOnLink 22 = .ok (.invokevirtual 125, 3) := by decide +kernel
theorem d_Ho_hearOnLink_25 : decode b_Ho_hearOnLink 25 = .ok (.iconst 0, 1) := by decide +kernel
theorem d_Ho_hearOnLink_26 : decode b_Ho_hearOnLink 26 = .ok (.invokevirtual 129, 3) := by decide +kernel
theorem d_Ho_hearOnLink_29 : decode b_Ho_hearOnLink 29 = .ok (.return_, 1) := by decide +kernel
theorem d_Ho_hearForm_0 : decode b_Ho_hearForm 0 = .ok (.aload_n 0, 1) := by decide +kernel
theorem d_Ho_hearForm_1 : decode b_Ho_hearForm 1 = .ok (.getfield 19, 3) := by decide +kernel
theorem d_Ho_hearForm_4 : decode b_Ho_hearForm 4 = .ok (.iload_n 1, 1) := by decide +kernel
theorem d_Ho_hearForm_5 : decode b_Ho_hearForm 5 = .ok (.aload_n 0, 1) := by decide +kernel
theorem d_Ho_hearForm_6 : decode b_Ho_hearForm 6 = .ok (.getfield 81, 3) := by decide +kernel
theorem d_Ho_hearForm_9 : decode b_Ho_hearForm 9 = .ok (.invokestatic 110, 3) := by decide +kernel
theorem d_Ho_hearForm_12 : decode b_Ho_hearForm 12 = .ok (.invokevirtual 142, 3) := by decide +kernel
theorem d_Ho_hearForm_15 : decode b_Ho_hearForm 15 = .ok (.astore 4, 2) := by decide +kernel
theorem d_Ho_hearForm_17 : decode b_Ho_hearForm 17 = .ok (.aload 4, 2) := by decide +kernel
theorem d_Ho_hearForm_19 : decode b_Ho_hearForm 19 = .ok (.ifnonnull 36, 3) := by decide +kernel
theorem d_Ho_hearForm_22 : decode b_Ho_hearForm 22 = .ok (.iload_n 2, 1) := by decide +kernel
theorem d_Ho_hearForm_23 : decode b_Ho_hearForm 23 = .ok (.ifCond .eq 49, 3) := by decide +kernel
theorem d_Ho_hearForm_26 : decode b_Ho_hearForm 26 = .ok (.aload_n 0, 1) := by decide +kernel
theorem d_Ho_hearForm_27 : decode b_Ho_hearForm 27 = .ok (.getfield 19, 3) := by decide +kernel
theorem d_Ho_hearForm_30 : decode b_Ho_hearForm 30 = .ok (.invokevirtual 215, 3) := by decide +kernel
theorem d_Ho_hearForm_33 : decode b_Ho_hearForm 33 = .ok (.iconst 5, 1) := by decide +kernel
theorem d_Ho_hearForm_34 : decode b_Ho_hearForm 34 = .ok (.if_icmp .ge 38, 3) := by decide +kernel
theorem d_Ho_hearForm_37 : decode b_Ho_hearForm 37 = .ok (.aload_n 0, 1) := by decide +kernel
theorem d_Ho_hearForm_38 : decode b_Ho_hearForm 38 = .ok (.iload_n 1, 1) := by decide +kernel
theorem d_Ho_hearForm_39 : decode b_Ho_hearForm 39 = .ok (.aload_n 0, 1) := by decide +kernel
theorem d_Ho_hearForm_40 : decode b_Ho_hearForm 40 = .ok (.iload_n 2, 1) := by decide +kernel
theorem d_Ho_hearForm_41 : decode b_Ho_hearForm 41 = .ok (.invokevirtual 125, 3) := by decide +kernel
theorem d_Ho_hearForm_44 : decode b_Ho_hearForm 44 = .ok (.aload_n 0, 1) := by decide +kernel
theorem d_Ho_hearForm_45 : decode b_Ho_hearForm 45 = .ok (.iload_n 3, 1) := by decide +kernel
theorem d_Ho_hearForm_46 : decode b_Ho_hearForm 46 = .ok (.invokevirtual 125, 3) := by decide +kernel
theorem d_Ho_hearForm_49 : decode b_Ho_hearForm 49 = .ok (.invokevirtual 85, 3) := by decide +kernel
theorem d_Ho_hearForm_52 : decode b_Ho_hearForm 52 = .ok (.goto 20, 3) := by decide +kernel
theorem d_Ho_hearForm_55 : decode b_Ho_hearForm 55 = .ok (.aload 4, 2) := by decide +kernel
theorem d_Ho_hearForm_57 : decode b_Ho_hearForm 57 = .ok (.getfield 156, 3) := by decide +kernel
theorem d_Ho_hearForm_60 : decode b_Ho_hearForm 60 = .ok (.iconst 4, 1) := by decide +kernel
theorem d_Ho_hearForm_61 : decode b_Ho_hearForm 61 = .ok (.if_icmp .eq 11, 3) := by decide +kernel
theorem d_Ho_hearForm_64 : decode b_Ho_hearForm 64 = .ok (.aload_n 0, 1) := by decide +kernel
theorem d_Ho_hearForm_65 : decode b_Ho_hearForm 65 = .ok (.aload 4, 2) := by decide +kernel
theorem d_Ho_hearForm_67 : decode b_Ho_hearForm 67 = .ok (.iload_n 2, 1) := by decide +kernel
theorem d_Ho_hearForm_68 : decode b_Ho_hearForm 68 = .ok (.iload_n 3, 1) := by decide +kernel
theorem d_Ho_hearForm_69 : decode b_Ho_hearForm 69 = .ok (.invokevirtual 321, 3) := by decide +kernel
theorem d_Ho_hearForm_72 : decode b_Ho_hearForm 72 = .ok (.return_, 1) := by decide +kernel
theorem d_Or_find_0 : decode b_Or_find 0 = .ok (.iconst 0, 1) := by decide +kernel
theorem d_Or_find_1 : decode b_Or_find 1 = .ok (.istore_n 2, 1) := by decide +kernel
theorem d_Or_find_2 : decode b_Or_find 2 = .ok (.iload_n 2, 1) := by decide +kernel
theorem d_Or_find_3 : decode b_Or_find 3 = .ok (.aload_n 0, 1) := by decide +kernel
theorem d_Or_find_4 : decode b_Or_find 4 = .ok (.getfield 10, 3) := by decide +kernel
theorem d_Or_find_7 : decode b_Or_find 7 = .ok (.invokevirtual 16, 3) := by decide +kernel
theorem d_Or_find_10 : decode b_Or_find 10 = .ok (.if_icmp .ge 39, 3) := by decide +kernel
theorem d_Or_find_13 : decode b_Or_find 13 = .ok (.aload_n 0, 1) := by decide +kernel
theorem d_Or_find_14 : decode b_Or_find 14 = .ok (.getfield 10, 3) := by decide +kernel
theorem d_Or_find_17 : decode b_Or_find 17 = .ok (.iload_n 2, 1) := by decide +kernel
theorem d_Or_find_18 : decode b_Or_find 18 = .ok (.invokevirtual 20, 3) := by decide +kernel
theorem d_Or_find_21 : decode b_Or_find 21 = .ok (.checkcast 24, 3) := by decide +kernel
theorem d_Or_find_24 : decode b_Or_find 24 = .ok (.getfield 30, 3) := by decide +kernel
theorem d_Or_find_27 : decode b_Or_find 27 = .ok (.iload_n 1, 1) := by decide +kernel
theorem d_Or_find_28 : decode b_Or_find 28 = .ok (.if_icmp .ne 15, 3) := by decide +kernel
theorem d_Or_find_31 : decode b_Or_find 31 = .ok (.aload_n 0, 1) := by decide +kernel
theorem d_Or_find_32 : decode b_Or_find 32 = .ok (.getfield 10, 3) := by decide +kernel
theorem d_Or_find_35 : decode b_Or_find 35 = .ok (.iload_n 2, 1) := by decide +kernel
theorem d_Or_find_36 : decode b_Or_find 36 = .ok (.invokevirtual 20, 3) := by decide +kernel
theorem d_Or_find_39 : decode b_Or_find 39 = .ok (.checkcast 24, 3) := by decide +kernel
theorem d_Or_find_42 : decode b_Or_find 42 = .ok (.areturn, 1) := by decide +kernel
theorem d_Or_find_43 : decode b_Or_find 43 = .ok (.iinc 2 1, 3) := by decide +kernel
theorem d_Or_find_46 : decode b_Or_find 46 = .ok (.goto (-44), 3) := by decide +kernel
theorem d_Or_find_49 : decode b_Or_find 49 = .ok (.aconst_null, 1) := by decide +kernel
theorem d_Or_find_50 : decode b_Or_find 50 = .ok (.areturn, 1) := by decide +kernel
theorem d_Ho_renew_0 : decode b_Ho_renew 0 = .ok (.aload_n 1, 1) := by decide +kernel
theorem d_Ho_renew_1 : decode b_Ho_renew 1 = .ok (.aload_n 0, 1) := by decide +kernel
theorem d_Ho_renew_2 : decode b_Ho_renew 2 = .ok (.iload_n 3, 1) := by decide +kernel
theorem d_Ho_renew_3 : decode b_Ho_renew 3 = .ok (.invokevirtual 125, 3) := by decide +kernel
theorem d_Ho_renew_6 : decode b_Ho_renew 6 = .ok (.putfield 296, 3) := by decide +kernel
theorem d_Ho_renew_9 : decode b_Ho_renew 9 = .ok (.aload_n 1, 1) := by decide +kernel
theorem d_Ho_renew_10 : decode b_Ho_renew 10 = .ok (.getfield 156, 3) := by decide +kernel
theorem d_Ho_renew_13 : decode b_Ho_renew 13 = .ok (.iconst 1, 1) := by decide +kernel
theorem d_Ho_renew_14 : decode b_Ho_renew 14 = .ok (.if_icmp .eq 16, 3) := by decide +kernel
theorem d_Ho_renew_17 : decode b_Ho_renew 17 = .ok (.aload_n 1, 1) := by decide +kernel
theorem d_Ho_renew_18 : decode b_Ho_renew 18 = .ok (.iload_n 3, 1) := by decide +kernel
theorem d_Ho_renew_19 : decode b_Ho_renew 19 = .ok (.ifCond .ne 7, 3) := by decide +kernel
theorem d_Ho_renew_22 : decode b_Ho_renew 22 = .ok (.iconst 3, 1) := by decide +kernel
theorem d_Ho_renew_23 : decode b_Ho_renew 23 = .ok (.goto 4, 3) := by decide +kernel
theorem d_Ho_renew_26 : decode b_Ho_renew 26 = .ok (.iconst 2, 1) := by decide +kernel
theorem d_Ho_renew_27 : decode b_Ho_renew 27 = .ok (.putfield 156, 3) := by decide +kernel
theorem d_Ho_renew_30 : decode b_Ho_renew 30 = .ok (.aload_n 1, 1) := by decide +kernel
theorem d_Ho_renew_31 : decode b_Ho_renew 31 = .ok (.getfield 233, 3) := by decide +kernel
theorem d_Ho_renew_34 : decode b_Ho_renew 34 = .ok (.aload_n 0, 1) := by decide +kernel
theorem d_Ho_renew_35 : decode b_Ho_renew 35 = .ok (.getfield 52, 3) := by decide +kernel
theorem d_Ho_renew_38 : decode b_Ho_renew 38 = .ok (.isub, 1) := by decide +kernel
theorem d_Ho_renew_39 : decode b_Ho_renew 39 = .ok (.istore 4, 2) := by decide +kernel
theorem d_Ho_renew_41 : decode b_Ho_renew 41 = .ok (.iload_n 2, 1) := by decide +kernel
theorem d_Ho_renew_42 : decode b_Ho_renew 42 = .ok (.bipush 20, 2) := by decide +kernel
theorem d_Ho_renew_44 : decode b_Ho_renew 44 = .ok (.if_icmp .gt 9, 3) := by decide +kernel
theorem d_Ho_renew_47 : decode b_Ho_renew 47 = .ok (.iload_n 2, 1) := by decide +kernel
theorem d_Ho_renew_48 : decode b_Ho_renew 48 = .ok (.iload 4, 2) := by decide +kernel
theorem d_Ho_renew_50 : decode b_Ho_renew 50 = .ok (.if_icmp .le 15, 3) := by decide +kernel
theorem d_Ho_renew_53 : decode b_Ho_renew 53 = .ok (.aload_n 1, 1) := by decide +kernel
theorem d_Ho_renew_54 : decode b_Ho_renew 54 = .ok (.aload_n 0, 1) := by decide +kernel
theorem d_Ho_renew_55 : decode b_Ho_renew 55 = .ok (.iload_n 2, 1) := by decide +kernel
theorem d_Ho_renew_56 : decode b_Ho_renew 56 = .ok (.invokevirtual 125, 3) := by decide +kernel
theorem d_Ho_renew_59 : decode b_Ho_renew 59 = .ok (.putfield 233, 3) := by decide +kernel
theorem d_Ho_renew_62 : decode b_Ho_renew 62 = .ok (.goto 20, 3) := by decide +kernel
theorem d_Ho_renew_65 : decode b_Ho_renew 65 = .ok (.iload 4, 2) := by decide +kernel
theorem d_Ho_renew_67 : decode b_Ho_renew 67 = .ok (.bipush 20, 2) := by decide +kernel
theorem d_Ho_renew_69 : decode b_Ho_renew 69 = .ok (.if_icmp .le 13, 3) := by decide +kernel
theorem d_Ho_renew_72 : decode b_Ho_renew 72 = .ok (.aload_n 1, 1) := by decide +kernel
theorem d_Ho_renew_73 : decode b_Ho_renew 73 = .ok (.aload_n 0, 1) := by decide +kernel
theorem d_Ho_renew_74 : decode b_Ho_renew 74 = .ok (.bipush 20, 2) := by decide +kernel
theorem d_Ho_renew_76 : decode b_Ho_renew 76 = .ok (.invokevirtual 125, 3) := by decide +kernel
theorem d_Ho_renew_79 : decode b_Ho_renew 79 = .ok (.putfield 233, 3) := by decide +kernel
theorem d_Ho_renew_82 : decode b_Ho_renew 82 = .ok (.return_, 1) := by decide +kernel
theorem d_La_asked_0 : decode b_La_asked 0 = .ok (.aload_n 0, 1) := by decide +kernel
theorem d_La_asked_1 : decode b_La_asked 1 = .ok (.iload_n 1, 1) := by decide +kernel
theorem d_La_asked_2 : decode b_La_asked 2 = .ok (.iload_n 2, 1) := by decide +kernel
theorem d_La_asked_3 : decode b_La_asked 3 = .ok (.iload_n 3, 1) := by decide +kernel
theorem d_La_asked_4 : decode b_La_asked 4 = .ok (.invokevirtual 24, 3) := by decide +kernel
theorem d_La_asked_7 : decode b_La_asked 7 = .ok (.goto 11, 3) := by decide +kernel
theorem d_La_asked_10 : decode b_La_asked 10 = .ok (.astore 4, 2) := by decide +kernel
theorem d_La_asked_12 : decode b_La_asked 12 = .ok (.iconst 1, 1) := by decide +kernel
theorem d_La_asked_13 : decode b_La_asked 13 = .ok (.ireturn, 1) := by decide +kernel
theorem d_La_asked_14 : decode b_La_asked 14 = .ok (.astore 4, 2) := by decide +kernel
theorem d_La_asked_16 : decode b_La_asked 16 = .ok (.iconst 2, 1) := by decide +kernel
theorem d_La_asked_17 : decode b_La_asked 17 = .ok (.ireturn, 1) := by decide +kernel
theorem d_La_asked_18 : decode b_La_asked 18 = .ok (.iconst 0, 1) := by decide +kernel
theorem d_La_asked_19 : decode b_La_asked 19 = .ok (.ireturn, 1) := by decide +kernel
theorem d_Ho_asked_0 : decode b_Ho_asked 0 = .ok (.iload_n 1, 1) := by decide +kernel
theorem d_Ho_asked_1 : decode b_Ho_asked 1 = .ok (.ifCond .eq 10, 3) := by decide +kernel
theorem d_Ho_asked_4 : decode b_Ho_asked 4 = .ok (.iload_n 1, 1) := by decide +kernel
theorem d_Ho_asked_5 : decode b_Ho_asked 5 = .ok (.invokestatic 139, 3) := by decide +kernel
theorem d_Ho_asked_8 : decode b_Ho_asked 8 = .ok (.ifCond .eq 21, 3) := by decide +kernel
theorem d_Ho_asked_11 : decode b_Ho_asked 11 = .ok (.iload_n 2, 1) := by decide +kernel
theorem d_Ho_asked_12 : decode b_Ho_asked 12 = .ok (.invokestatic 139, 3) := by decide +kernel
theorem d_Ho_asked_15 : decode b_Ho_asked 15 = .ok (.ifCond .eq 14, 3) := by decide +kernel
theorem d_Ho_asked_18 : decode b_Ho_asked 18 = .ok (.iload_n 3, 1) := by decide +kernel
theorem d_Ho_asked_19 : decode b_Ho_asked 19 = .ok (.invokestatic 100, 3) := by decide +kernel
theorem d_Ho_asked_22 : decode b_Ho_asked 22 = .ok (.ifCond .eq 7, 3) := by decide +kernel
theorem d_Ho_asked_25 : decode b_Ho_asked 25 = .ok (.iconst 1, 1) := by decide +kernel
theorem d_Ho_asked_26 : decode b_Ho_asked 26 = .ok (.goto 4, 3) := by decide +kernel
theorem d_Ho_asked_29 : decode b_Ho_asked 29 = .ok (.iconst 0, 1) := by decide +kernel
theorem d_Ho_asked_30 : decode b_Ho_asked 30 = .ok (.invokestatic 93, 3) := by decide +kernel
theorem d_Ho_asked_33 : decode b_Ho_asked 33 = .ok (.aload_n 0, 1) := by decide +kernel
theorem d_Ho_asked_34 : decode b_Ho_asked 34 = .ok (.invokevirtual 107, 3) := by decide +kernel
theorem d_Ho_asked_37 : decode b_Ho_asked 37 = .ok (.aload_n 0, 1) := by decide +kernel
theorem d_Ho_asked_38 : decode b_Ho_asked 38 = .ok (.getfield 19, 3) := by decide +kernel
theorem d_Ho_asked_41 : decode b_Ho_asked 41 = .ok (.iload_n 2, 1) := by decide +kernel
theorem d_Ho_asked_42 : decode b_Ho_asked 42 = .ok (.invokevirtual 142, 3) := by decide +kernel
theorem d_Ho_asked_45 : decode b_Ho_asked 45 = .ok (.astore 4, 2) := by decide +kernel
theorem d_Ho_asked_47 : decode b_Ho_asked 47 = .ok (.aload 4, 2) := by decide +kernel
theorem d_Ho_asked_49 : decode b_Ho_asked 49 = .ok (.ifnonnull 4, 3) := by decide +kernel
theorem d_Ho_asked_52 : decode b_Ho_asked 52 = .ok (.return_, 1) := by decide +kernel
theorem d_Ho_asked_53 : decode b_Ho_asked 53 = .ok (.aload 4, 2) := by decide +kernel
theorem d_Ho_asked_55 : decode b_Ho_asked 55 = .ok (.invokevirtual 146, 3) := by decide +kernel
theorem d_Ho_asked_58 : decode b_Ho_asked 58 = .ok (.ifCond .eq 36, 3) := by decide +kernel
theorem d_Ho_asked_61 : decode b_Ho_asked 61 = .ok (.iload_n 1, 1) := by decide +kernel
theorem d_Ho_asked_62 : decode b_Ho_asked 62 = .ok (.ifCond .eq 10, 3) := by decide +kernel
theorem d_Ho_asked_65 : decode b_Ho_asked 65 = .ok (.aload_n 0, 1) := by decide +kernel
theorem d_Ho_asked_66 : decode b_Ho_asked 66 = .ok (.iload_n 1, 1) := by decide +kernel
theorem d_Ho_asked_67 : decode b_Ho_asked 67 = .ok (.iload_n 3, 1) := by decide +kernel
theorem d_Ho_asked_68 : decode b_Ho_asked 68 = .ok (.invokevirtual 113, 3) := by decide +kernel
theorem d_Ho_asked_71 : decode b_Ho_asked 71 = .ok (.pop, 1) := by decide +kernel
theorem d_Ho_asked_72 : decode b_Ho_asked 72 = .ok (.aload_n 0, 1) := by decide +kernel
theorem d_Ho_asked_73 : decode b_Ho_asked 73 = .ok (.getfield 10, 3) := by decide +kernel
theorem d_Ho_asked_76 : decode b_Ho_asked 76 = .ok (.iconst 3, 1) := by decide +kernel
theorem d_Ho_asked_77 : decode b_Ho_asked 77 = .ok (.iload_n 1, 1) := by decide +kernel
theorem d_Ho_asked_78 : decode b_Ho_asked 78 = .ok (.ifCond .ne 8, 3) := by decide +kernel
theorem d_Ho_asked_81 : decode b_Ho_asked 81 = .ok (.ldc 152, 2) := by decide +kernel
theorem d_Ho_asked_83 : decode b_Ho_asked 83 = .ok (.goto 4, 3) := by decide +kernel
theorem d_Ho_asked_86 : decode b_Ho_asked 86 = .ok (.iload_n 1, 1) := by decide +kernel
theorem d_Ho_asked_87 : decode b_Ho_asked 87 = .ok (.iload_n 2, 1) := by decide +kernel
theorem d_Ho_asked_88 : decode b_Ho_asked 88 = .ok (.invokevirtual 153, 3) := by decide +kernel
theorem d_Ho_asked_91 : decode b_Ho_asked 91 = .ok (.goto 22, 3) := by decide +kernel
theorem d_Ho_asked_94 : decode b_Ho_asked 94 = .ok (.iload_n 1, 1) := by decide +kernel
theorem d_Ho_asked_95 : decode b_Ho_asked 95 = .ok (.ifCond .ne 18, 3) := by decide +kernel
theorem d_Ho_asked_98 : decode b_Ho_asked 98 = .ok (.aload 4, 2) := by decide +kernel
theorem d_Ho_asked_100 : decode b_Ho_asked 100 = .ok (.getfield 156, 3) := by decide +kernel
theorem d_Ho_asked_103 : decode b_Ho_asked 103 = .ok (.iconst 1, 1) := by decide +kernel
theorem d_Ho_asked_104 : decode b_Ho_asked 104 = .ok (.if_icmp .ne 9, 3) := by decide +kernel
theorem d_Ho_asked_107 : decode b_Ho_asked 107 = .ok (.aload_n 0, 1) := by decide +kernel
theorem d_Ho_asked_108 : decode b_Ho_asked 108 = .ok (.aload 4, 2) := by decide +kernel
theorem d_Ho_asked_110 : decode b_Ho_asked 110 = .ok (.invokevirtual 159, 3) := by decide +kernel
theorem d_Ho_asked_113 : decode b_Ho_asked 113 = .ok (.return_, 1) := by decide +kernel
theorem d_Ho_isAddress_0 : decode b_Ho_isAddress 0 = .ok (.iload_n 0, 1) := by decide +kernel
theorem d_Ho_isAddress_1 : decode b_Ho_isAddress 1 = .ok (.invokestatic 277, 3) := by decide +kernel
theorem d_Ho_isAddress_4 : decode b_Ho_isAddress 4 = .ok (.iconst 1, 1) := by decide +kernel
theorem d_Ho_isAddress_5 : decode b_Ho_isAddress 5 = .ok (.sipush 250, 3) := by decide +kernel
theorem d_Ho_isAddress_8 : decode b_Ho_isAddress 8 = .ok (.invokestatic 89, 3) := by decide +kernel
theorem d_Ho_isAddress_11 : decode b_Ho_isAddress 11 = .ok (.ifCond .eq 22, 3) := by decide +kernel
theorem d_Ho_isAddress_14 : decode b_Ho_isAddress 14 = .ok (.iload_n 0, 1) := by decide +kernel
theorem d_Ho_isAddress_15 : decode b_Ho_isAddress 15 = .ok (.sipush 256, 3) := by decide +kernel
theorem d_Ho_isAddress_18 : decode b_Ho_isAddress 18 = .ok (.irem, 1) := by decide +kernel
theorem d_Ho_isAddress_19 : decode b_Ho_isAddress 19 = .ok (.iconst 1, 1) := by decide +kernel
theorem d_Ho_isAddress_20 : decode b_Ho_isAddress 20 = .ok (.sipush 254, 3) := by decide +kernel
theorem d_Ho_isAddress_23 : decode b_Ho_isAddress 23 = .ok (.invokestatic 89, 3) := by decide +kernel
theorem d_Ho_isAddress_26 : decode b_Ho_isAddress 26 = .ok (.ifCond .eq 7, 3) := by decide +kernel
theorem d_Ho_isAddress_29 : decode b_Ho_isAddress 29 = .ok (.iconst 1, 1) := by decide +kernel
theorem d_Ho_isAddress_30 : decode b_Ho_isAddress 30 = .ok (.goto 4, 3) := by decide +kernel
theorem d_Ho_isAddress_33 : decode b_Ho_isAddress 33 = .ok (.iconst 0, 1) := by decide +kernel
theorem d_Ho_isAddress_34 : decode b_Ho_isAddress 34 = .ok (.ireturn, 1) := by decide +kernel
theorem d_Ho_prefixOf_0 : decode b_Ho_prefixOf 0 = .ok (.iload_n 0, 1) := by decide +kernel
theorem d_Ho_prefixOf_1 : decode b_Ho_prefixOf 1 = .ok (.sipush 256, 3) := by decide +kernel
theorem d_Ho_prefixOf_4 : decode b_Ho_prefixOf 4 = .ok (.idiv, 1) := by decide +kernel
theorem d_Ho_prefixOf_5 : decode b_Ho_prefixOf 5 = .ok (.ireturn, 1) := by decide +kernel
theorem d_Oa_isUsable_0 : decode b_Oa_isUsable 0 = .ok (.aload_n 0, 1) := by decide +kernel
theorem d_Oa_isUsable_1 : decode b_Oa_isUsable 1 = .ok (.getfield 9, 3) := by decide +kernel
theorem d_Oa_isUsable_4 : decode b_Oa_isUsable 4 = .ok (.iconst 2, 1) := by decide +kernel
theorem d_Oa_isUsable_5 : decode b_Oa_isUsable 5 = .ok (.if_icmp .eq 11, 3) := by decide +kernel
theorem d_Oa_isUsable_8 : decode b_Oa_isUsable 8 = .ok (.aload_n 0, 1) := by decide +kernel
theorem d_Oa_isUsable_9 : decode b_Oa_isUsable 9 = .ok (.getfield 9, 3) := by decide +kernel
theorem d_Oa_isUsable_12 : decode b_Oa_isUsable 12 = .ok (.iconst 3, 1) := by decide +kernel
theorem d_Oa_isUsable_13 : decode b_Oa_isUsable 13 = .ok (.if_icmp .ne 7, 3) := by decide +kernel
theorem d_Oa_isUsable_16 : decode b_Oa_isUsable 16 = .ok (.iconst 1, 1) := by decide +kernel
theorem d_Oa_isUsable_17 : decode b_Oa_isUsable 17 = .ok (.goto 4, 3) := by decide +kernel
theorem d_Oa_isUsable_20 : decode b_Oa_isUsable 20 = .ok (.iconst 0, 1) := by decide +kernel
theorem d_Oa_isUsable_21 : decode b_Oa_isUsable 21 = .ok (.ireturn, 1) := by decide +kernel
theorem d_Ho_markDuplicate_0 : decode b_Ho_markDuplicate 0 = .ok (.aload_n 1, 1) := by decide +kernel
theorem d_Ho_markDuplicate_1 : decode b_Ho_markDuplicate 1 = .ok (.iconst 4, 1) := by decide +kernel
theorem d_Ho_markDuplicate_2 : decode b_Ho_markDuplicate 2 = .ok (.putfield 156, 3) := by decide +kernel
theorem d_Ho_markDuplicate_5 : decode b_Ho_markDuplicate 5 = .ok (.aload_n 1, 1) := by decide +kernel
theorem d_Ho_markDuplicate_6 : decode b_Ho_markDuplicate 6 = .ok (.getfield 229, 3) := by decide +kernel
theorem d_Ho_markDuplicate_9 : decode b_Ho_markDuplicate 9 = .ok (.invokestatic 170, 3) := by decide +kernel
theorem d_Ho_markDuplicate_12 : decode b_Ho_markDuplicate 12 = .ok (.ifCond .eq 8, 3) := by decide +kernel
theorem d_Ho_markDuplicate_15 : decode b_Ho_markDuplicate 15 = .ok (.aload_n 0, 1) := by decide +kernel
theorem d_Ho_markDuplicate_16 : decode b_Ho_markDuplicate 16 = .ok (.iconst 1, 1) := by decide +kernel
theorem d_Ho_markDuplicate_17 : decode b_Ho_markDuplicate 17 = .ok (.putfield 68, 3) := by decide +kernel
theorem d_Ho_markDuplicate_20 : decode b_Ho_markDuplicate 20 = .ok (.return_, 1) := by decide +kernel
theorem d_Ho_isLocal_0 : decode b_Ho_isLocal 0 = .ok (.iload_n 0, 1) := by decide +kernel
theorem d_Ho_isLocal_1 : decode b_Ho_isLocal 1 = .ok (.invokestatic 277, 3) := by decide +kernel
theorem d_Ho_isLocal_4 : decode b_Ho_isLocal 4 = .ok (.iconst 1, 1) := by decide +kernel
theorem d_Ho_isLocal_5 : decode b_Ho_isLocal 5 = .ok (.if_icmp .ne 7, 3) := by decide +kernel
theorem d_Ho_isLocal_8 : decode b_Ho_isLocal 8 = .ok (.iconst 1, 1) := by decide +kernel
theorem d_Ho_isLocal_9 : decode b_Ho_isLocal 9 = .ok (.goto 4, 3) := by decide +kernel
theorem d_Ho_isLocal_12 : decode b_Ho_isLocal 12 = .ok (.iconst 0, 1) := by decide +kernel
theorem d_Ho_isLocal_13 : decode b_Ho_isLocal 13 = .ok (.ireturn, 1) := by decide +kernel
theorem d_La_told_0 : decode b_La_told 0 = .ok (.aload_n 0, 1) := by decide +kernel
theorem d_La_told_1 : decode b_La_told 1 = .ok (.iload_n 1, 1) := by decide +kernel
theorem d_La_told_2 : decode b_La_told 2 = .ok (.iload_n 2, 1) := by decide +kernel
theorem d_La_told_3 : decode b_La_told 3 = .ok (.iload_n 3, 1) := by decide +kernel
theorem d_La_told_4 : decode b_La_told 4 = .ok (.invokevirtual 28, 3) := by decide +kernel
theorem d_La_told_7 : decode b_La_told 7 = .ok (.goto 11, 3) := by decide +kernel
theorem d_La_told_10 : decode b_La_told 10 = .ok (.astore 4, 2) := by decide +kernel
theorem d_La_told_12 : decode b_La_told 12 = .ok (.iconst 1, 1) := by decide +kernel
theorem d_La_told_13 : decode b_La_told 13 = .ok (.ireturn, 1) := by decide +kernel
theorem d_La_told_14 : decode b_La_told 14 = .ok (.astore 4, 2) := by decide +kernel
theorem d_La_told_16 : decode b_La_told 16 = .ok (.iconst 2, 1) := by decide +kernel
theorem d_La_told_17 : decode b_La_told 17 = .ok (.ireturn, 1) := by decide +kernel
theorem d_La_told_18 : decode b_La_told 18 = .ok (.iconst 0, 1) := by decide +kernel
theorem d_La_told_19 : decode b_La_told 19 = .ok (.ireturn, 1) := by decide +kernel
theorem d_Ho_told_0 : decode b_Ho_told 0 = .ok (.iload_n 1, 1) := by decide +kernel
theorem d_Ho_told_1 : decode b_Ho_told 1 = .ok (.invokestatic 139, 3) := by decide +kernel
theorem d_Ho_told_4 : decode b_Ho_told 4 = .ok (.ifCond .eq 24, 3) := by decide +kernel
theorem d_Ho_told_7 : decode b_Ho_told 7 = .ok (.iload_n 2, 1) := by decide +kernel
theorem d_Ho_told_8 : decode b_Ho_told 8 = .ok (.invokestatic 100, 3) := by decide +kernel
theorem d_Ho_told_11 : decode b_Ho_told 11 = .ok (.ifCond .eq 17, 3) := by decide +kernel
theorem d_Ho_told_14 : decode b_Ho_told 14 = .ok (.iload_n 3, 1) := by decide +kernel
theorem d_Ho_told_15 : decode b_Ho_told 15 = .ok (.iconst 0, 1) := by decide +kernel
theorem d_Ho_told_16 : decode b_Ho_told 16 = .ok (.bipush 7, 2) := by decide +kernel
theorem d_Ho_told_18 : decode b_Ho_told 18 = .ok (.invokestatic 89, 3) := by decide +kernel
theorem d_Ho_told_21 : decode b_Ho_told 21 = .ok (.ifCond .eq 7, 3) := by decide +kernel
theorem d_Ho_told_24 : decode b_Ho_told 24 = .ok (.iconst 1, 1) := by decide +kernel
theorem d_Ho_told_25 : decode b_Ho_told 25 = .ok (.goto 4, 3) := by decide +kernel
theorem d_Ho_told_28 : decode b_Ho_told 28 = .ok (.iconst 0, 1) := by decide +kernel
theorem d_Ho_told_29 : decode b_Ho_told 29 = .ok (.invokestatic 93, 3) := by decide +kernel
theorem d_Ho_told_32 : decode b_Ho_told 32 = .ok (.aload_n 0, 1) := by decide +kernel
theorem d_Ho_told_33 : decode b_Ho_told 33 = .ok (.invokevirtual 107, 3) := by decide +kernel
theorem d_Ho_told_36 : decode b_Ho_told 36 = .ok (.aload_n 0, 1) := by decide +kernel
theorem d_Ho_told_37 : decode b_Ho_told 37 = .ok (.getfield 19, 3) := by decide +kernel
theorem d_Ho_told_40 : decode b_Ho_told 40 = .ok (.iload_n 1, 1) := by decide +kernel
theorem d_Ho_told_41 : decode b_Ho_told 41 = .ok (.invokevirtual 142, 3) := by decide +kernel
theorem d_Ho_told_44 : decode b_Ho_told 44 = .ok (.astore 4, 2) := by decide +kernel
theorem d_Ho_told_46 : decode b_Ho_told 46 = .ok (.aload 4, 2) := by decide +kernel
theorem d_Ho_told_48 : decode b_Ho_told 48 = .ok (.ifnull 19, 3) := by decide +kernel
theorem d_Ho_told_51 : decode b_Ho_told 51 = .ok (.aload 4, 2) := by decide +kernel
theorem d_Ho_told_53 : decode b_Ho_told 53 = .ok (.getfield 156, 3) := by decide +kernel
theorem d_Ho_told_56 : decode b_Ho_told 56 = .ok (.iconst 1, 1) := by decide +kernel
theorem d_Ho_told_57 : decode b_Ho_told 57 = .ok (.if_icmp .ne 10, 3) := by decide +kernel
theorem d_Ho_told_60 : decode b_Ho_told 60 = .ok (.aload_n 0, 1) := by decide +kernel
theorem d_Ho_told_61 : decode b_Ho_told 61 = .ok (.aload 4, 2) := by decide +kernel
theorem d_Ho_told_63 : decode b_Ho_told 63 = .ok (.invokevirtual 159, 3) := by decide +kernel
theorem d_Ho_told_66 : decode b_Ho_told 66 = .ok (.return_, 1) := by decide +kernel
theorem d_Ho_told_67 : decode b_Ho_told 67 = .ok (.aload_n 0, 1) := by decide +kernel
theorem d_Ho_told_68 : decode b_Ho_told 68 = .ok (.getfield 26, 3) := by decide +kernel
theorem d_Ho_told_71 : decode b_Ho_told 71 = .ok (.iload_n 1, 1) := by decide +kernel
theorem d_Ho_told_72 : decode b_Ho_told 72 = .ok (.invokevirtual 163, 3) := by decide +kernel
theorem d_Ho_told_75 : decode b_Ho_told 75 = .ok (.astore 5, 2) := by decide +kernel
theorem d_Ho_told_77 : decode b_Ho_told 77 = .ok (.aload 5, 2) := by decide +kernel
theorem d_Ho_told_79 : decode b_Ho_told 79 = .ok (.ifnull 11, 3) := by decide +kernel
theorem d_Ho_told_82 : decode b_Ho_told 82 = .ok (.aload_n 0, 1) := by decide +kernel
theorem d_Ho_told_83 : decode b_Ho_told 83 = .ok (.aload 5, 2) := by decide +kernel
theorem d_Ho_told_85 : decode b_Ho_told 85 = .ok (.iload_n 2, 1) := by decide +kernel
theorem d_Ho_told_86 : decode b_Ho_told 86 = .ok (.iload_n 3, 1) := by decide +kernel
theorem d_Ho_told_87 : decode b_Ho_told 87 = .ok (.invokevirtual 166, 3) := by decide +kernel
theorem d_Ho_told_90 : decode b_Ho_told 90 = .ok (.return_, 1) := by decide +kernel
theorem d_Ho_hearNumber_0 : decode b_Ho_hearNumber 0 = .ok (.iload_n 3, 1) := by decide +kernel
theorem d_Ho_hearNumber_1 : decode b_Ho_hearNumber 1 = .ok (.iconst 2, 1) := by decide +kernel
theorem d_Ho_hearNumber_2 : decode b_Ho_hearNumber 2 = .ok (.iand, 1) := by decide +kernel
theorem d_Ho_hearNumber_3 : decode b_Ho_hearNumber 3 = .ok (.ifCond .eq 7, 3) := by decide +kernel
theorem d_Ho_hearNumber_6 : decode b_Ho_hearNumber 6 = .ok (.iconst 1, 1) := by decide +kernel
theorem d_Ho_hearNumber_7 : decode b_Ho_hearNumber 7 = .ok (.goto 4, 3) := by decide +kernel
theorem d_Ho_hearNumber_10 : decode b_Ho_hearNumber 10 = .ok (.iconst 0, 1) := by decide +kernel
theorem d_Ho_hearNumber_11 : decode b_Ho_hearNumber 11 = .ok (.istore 4, 2) := by decide +kernel
theorem d_Ho_hearNumber_13 : decode b_Ho_hearNumber 13 = .ok (.aload_n 1, 1) := by decide +kernel
theorem d_Ho_hearNumber_14 : decode b_Ho_hearNumber 14 = .ok (.getfield 237, 3) := by decide +kernel
theorem d_Ho_hearNumber_17 : decode b_Ho_hearNumber 17 = .ok (.iload_n 2, 1) := by decide +kernel
theorem d_Ho_hearNumber_18 : decode b_Ho_hearNumber 18 = .ok (.if_icmp .eq 7, 3) := by decide +kernel
theorem d_Ho_hearNumber_21 : decode b_Ho_hearNumber 21 = .ok (.iconst 1, 1) := by decide +kernel
theorem d_Ho_hearNumber_22 : decode b_Ho_hearNumber 22 = .ok (.goto 4, 3) := by decide +kernel
theorem d_Ho_hearNumber_25 : decode b_Ho_hearNumber 25 = .ok (.iconst 0, 1) := by decide +kernel
theorem d_Ho_hearNumber_26 : decode b_Ho_hearNumber 26 = .ok (.istore 5, 2) := by decide +kernel
theorem d_Ho_hearNumber_28 : decode b_Ho_hearNumber 28 = .ok (.aload_n 1, 1) := by decide +kernel
theorem d_Ho_hearNumber_29 : decode b_Ho_hearNumber 29 = .ok (.getfield 236, 3) := by decide +kernel
theorem d_Ho_hearNumber_32 : decode b_Ho_hearNumber 32 = .ok (.iconst 1, 1) := by decide +kernel
theorem d_Ho_hearNumber_33 : decode b_Ho_hearNumber 33 = .ok (.if_icmp .ne 34, 3) := by decide +kernel
theorem d_Ho_hearNumber_36 : decode b_Ho_hearNumber 36 = .ok (.aload_n 1, 1) := by decide +kernel
theorem d_Ho_hearNumber_37 : decode b_Ho_hearNumber 37 = .ok (.iload_n 2, 1) := by decide +kernel
theorem d_Ho_hearNumber_38 : decode b_Ho_hearNumber 38 = .ok (.putfield 237, 3) := by decide +kernel
theorem d_Ho_hearNumber_41 : decode b_Ho_hearNumber 41 = .ok (.aload_n 1, 1) := by decide +kernel
theorem d_Ho_hearNumber_42 : decode b_Ho_hearNumber 42 = .ok (.iload 4, 2) := by decide +kernel
theorem d_Ho_hearNumber_44 : decode b_Ho_hearNumber 44 = .ok (.ifCond .eq 7, 3) := by decide +kernel
theorem d_Ho_hearNumber_47 : decode b_Ho_hearNumber 47 = .ok (.iconst 2, 1) := by decide +kernel
theorem d_Ho_hearNumber_48 : decode b_Ho_hearNumber 48 = .ok (.goto 4, 3) := by decide +kernel
theorem d_Ho_hearNumber_51 : decode b_Ho_hearNumber 51 = .ok (.iconst 3, 1) := by decide +kernel
theorem d_Ho_hearNumber_52 : decode b_Ho_hearNumber 52 = .ok (.aload_n 0, 1) := by decide +kernel
theorem d_Ho_hearNumber_53 : decode b_Ho_hearNumber 53 = .ok (.getfield 52, 3) := by decide +kernel
theorem d_Ho_hearNumber_56 : decode b_Ho_hearNumber 56 = .ok (.invokevirtual 314, 3) := by decide +kernel
theorem d_Ho_hearNumber_59 : decode b_Ho_hearNumber 59 = .ok (.aload_n 0, 1) := by decide +kernel
theorem d_Ho_hearNumber_60 : decode b_Ho_hearNumber 60 = .ok (.aload_n 1, 1) := by decide +kernel
theorem d_Ho_hearNumber_61 : decode b_Ho_hearNumber 61 = .ok (.invokevirtual 330, 3) := by decide +kernel
theorem d_Ho_hearNumber_64 : decode b_Ho_hearNumber 64 = .ok (.goto 68, 3) := by decide +kernel
theorem d_Ho_hearNumber_67 : decode b_Ho_hearNumber 67 = .ok (.iload 5, 2) := by decide +kernel
theorem d_Ho_hearNumber_69 : decode b_Ho_hearNumber 69 = .ok (.ifCond .eq 27, 3) := by decide +kernel
theorem d_Ho_hearNumber_72 : decode b_Ho_hearNumber 72 = .ok (.iload_n 3, 1) := by decide +kernel
theorem d_Ho_hearNumber_73 : decode b_Ho_hearNumber 73 = .ok (.iconst 4, 1) := by decide +kernel
theorem d_Ho_hearNumber_74 : decode b_Ho_hearNumber 74 = .ok (.iand, 1) := by decide +kernel
theorem d_Ho_hearNumber_75 : decode b_Ho_hearNumber 75 = .ok (.ifCond .ne 21, 3) := by decide +kernel
theorem d_Ho_hearNumber_78 : decode b_Ho_hearNumber 78 = .ok (.aload_n 1, 1) := by decide +kernel
theorem d_Ho_hearNumber_79 : decode b_Ho_hearNumber 79 = .ok (.getfield 236, 3) := by decide +kernel
theorem d_Ho_hearNumber_82 : decode b_Ho_hearNumber 82 = .ok (.iconst 2, 1) := by decide +kernel
theorem d_Ho_hearNumber_83 : decode b_Ho_hearNumber 83 = .ok (.if_icmp .ne 12, 3) := by decide +kernel
theorem d_Ho_hearNumber_86 : decode b_Ho_hearNumber 86 = .ok (.aload_n 1, 1) := by decide +kernel
theorem d_Ho_hearNumber_87 : decode b_Ho_hearNumber 87 = .ok (.iconst 3, 1) := by decide +kernel
theorem d_Ho_hearNumber_88 : decode b_Ho_hearNumber 88 = .ok (.aload_n 0, 1) := by decide +kernel
theorem d_Ho_hearNumber_89 : decode b_Ho_hearNumber 89 = .ok (.getfield 52, 3) := by decide +kernel
theorem d_Ho_hearNumber_92 : decode b_Ho_hearNumber 92 = .ok (.invokevirtual 314, 3) := by decide +kernel
theorem d_Ho_hearNumber_95 : decode b_Ho_hearNumber 95 = .ok (.return_, 1) := by decide +kernel
theorem d_Ho_hearNumber_96 : decode b_Ho_hearNumber 96 = .ok (.aload_n 1, 1) := by decide +kernel
theorem d_Ho_hearNumber_97 : decode b_Ho_hearNumber 97 = .ok (.iload_n 2, 1) := by decide +kernel
theorem d_Ho_hearNumber_98 : decode b_Ho_hearNumber 98 = .ok (.putfield 237, 3) := by decide +kernel
theorem d_Ho_hearNumber_101 : decode b_Ho_hearNumber 101 = .ok (.iload 4, 2) := by decide +kernel
theorem d_Ho_hearNumber_103 : decode b_Ho_hearNumber 103 = .ok (.ifCond .eq 15, 3) := by decide +kernel
theorem d_Ho_hearNumber_106 : decode b_Ho_hearNumber 106 = .ok (.aload_n 1, 1) := by decide +kernel
theorem d_Ho_hearNumber_107 : decode b_Ho_hearNumber 107 = .ok (.iconst 2, 1) := by decide +kernel
theorem d_Ho_hearNumber_108 : decode b_Ho_hearNumber 108 = .ok (.aload_n 0, 1) := by decide +kernel
theorem d_Ho_hearNumber_109 : decode b_Ho_hearNumber 109 = .ok (.getfield 52, 3) := by decide +kernel
theorem d_Ho_hearNumber_112 : decode b_Ho_hearNumber 112 = .ok (.invokevirtual 314, 3) := by decide +kernel
theorem d_Ho_hearNumber_115 : decode b_Ho_hearNumber 115 = .ok (.goto 17, 3) := by decide +kernel
theorem d_Ho_hearNumber_118 : decode b_Ho_hearNumber 118 = .ok (.iload 5, 2) := by decide +kernel
theorem d_Ho_hearNumber_120 : decode b_Ho_hearNumber 120 = .ok (.ifCond .eq 12, 3) := by decide +kernel
theorem d_Ho_hearNumber_123 : decode b_Ho_hearNumber 123 = .ok (.aload_n 1, 1) := by decide +kernel
theorem d_Ho_hearNumber_124 : decode b_Ho_hearNumber 124 = .ok (.iconst 3, 1) := by decide +kernel
theorem d_Ho_hearNumber_125 : decode b_Ho_hearNumber 125 = .ok (.aload_n 0, 1) := by decide +kernel
theorem d_Ho_hearNumber_126 : decode b_Ho_hearNumber 126 = .ok (.getfield 52, 3) := by decide +kernel
theorem d_Ho_hearNumber_129 : decode b_Ho_hearNumber 129 = .ok (.invokevirtual 314, 3) := by decide +kernel
theorem d_Ho_hearNumber_132 : decode b_Ho_hearNumber 132 = .ok (.aload_n 0, 1) := by decide +kernel
theorem d_Ho_hearNumber_133 : decode b_Ho_hearNumber 133 = .ok (.aload_n 1, 1) := by decide +kernel
theorem d_Ho_hearNumber_134 : decode b_Ho_hearNumber 134 = .ok (.iload_n 3, 1) := by decide +kernel
theorem d_Ho_hearNumber_135 : decode b_Ho_hearNumber 135 = .ok (.iconst 1, 1) := by decide +kernel
theorem d_Ho_hearNumber_136 : decode b_Ho_hearNumber 136 = .ok (.iand, 1) := by decide +kernel
theorem d_Ho_hearNumber_137 : decode b_Ho_hearNumber 137 = .ok (.ifCond .eq 7, 3) := by decide +kernel
theorem d_Ho_hearNumber_140 : decode b_Ho_hearNumber 140 = .ok (.iconst 1, 1) := by decide +kernel
theorem d_Ho_hearNumber_141 : decode b_Ho_hearNumber 141 = .ok (.goto 4, 3) := by decide +kernel
theorem d_Ho_hearNumber_144 : decode b_Ho_hearNumber 144 = .ok (.iconst 0, 1) := by decide +kernel
theorem d_Ho_hearNumber_145 : decode b_Ho_hearNumber 145 = .ok (.invokevirtual 333, 3) := by decide +kernel
theorem d_Ho_hearNumber_148 : decode b_Ho_hearNumber 148 = .ok (.return_, 1) := by decide +kernel
theorem d_Ho_hearWhetherRouter_0 : decode b_Ho_hearWhetherRouter 0 = .ok (.aload_n 1, 1) := by decide +kernel
theorem d_Ho_hearWhetherRouter_1 : decode b_Ho_hearWhetherRouter 1 = .ok (.getfield 117, 3) := by decide +kernel
theorem d_Ho_hearWhetherRouter_4 : decode b_Ho_hearWhetherRouter 4 = .ok (.ifCond .eq 18, 3) := by decide +kernel
theorem d_Ho_hearWhetherRouter_7 : decode b_Ho_hearWhetherRouter 7 = .ok (.iload_n 2, 1) := by decide +kernel
theorem d_Ho_hearWhetherRouter_8 : decode b_Ho_hearWhetherRouter 8 = .ok (.ifCond .ne 14, 3) := by decide +kernel
theorem d_Ho_hearWhetherRouter_11 : decode b_Ho_hearWhetherRouter 11 = .ok (.aload_n 0, 1) := by decide +kernel
theorem d_Ho_hearWhetherRouter_12 : decode b_Ho_hearWhetherRouter 12 = .ok (.getfield 35, 3) := by decide +kernel
theorem d_Ho_hearWhetherRouter_15 : decode b_Ho_hearWhetherRouter 15 = .ok (.aload_n 1, 1) := by decide +kernel
theorem d_Ho_hearWhetherRouter_16 : decode b_Ho_hearWhetherRouter 16 = .ok (.getfield 337, 3) := by decide +kernel
theorem d_Ho_hearWhetherRouter_19 : decode b_Ho_hearWhetherRouter 19 = .ok (.invokevirtual 122, 3) := by decide +kernel
theorem d_Ho_hearWhetherRouter_22 : decode b_Ho_hearWhetherRouter 22 = .ok (.aload_n 1, 1) := by decide +kernel
theorem d_Ho_hearWhetherRouter_23 : decode b_Ho_hearWhetherRouter 23 = .ok (.iload_n 2, 1) := by decide +kernel
theorem d_Ho_hearWhetherRouter_24 : decode b_Ho_hearWhetherRouter 24 = .ok (.putfield 117, 3) := by decide +kernel
theorem d_Ho_hearWhetherRouter_27 : decode b_Ho_hearWhetherRouter 27 = .ok (.return_, 1) := by decide +kernel
theorem d_La_send_0 : decode b_La_send 0 = .ok (.aload_n 3, 1) := by decide +kernel
theorem d_La_send_1 : decode b_La_send 1 = .ok (.iconst 0, 1) := by decide +kernel
theorem d_La_send_2 : decode b_La_send 2 = .ok (.aload_n 0, 1) := by decide +kernel
theorem d_La_send_3 : decode b_La_send 3 = .ok (.iload_n 1, 1) := by decide +kernel
theorem d_La_send_4 : decode b_La_send 4 = .ok (.iload_n 2, 1) := by decide +kernel
theorem d_La_send_5 : decode b_La_send 5 = .ok (.invokevirtual 31, 3) := by decide +kernel
theorem d_La_send_8 : decode b_La_send 8 = .ok (.i2l, 1) := by decide +kernel
theorem d_La_send_9 : decode b_La_send 9 = .ok (.lastore, 1) := by decide +kernel
theorem d_La_send_10 : decode b_La_send 10 = .ok (.goto 11, 3) := by decide +kernel
theorem d_La_send_13 : decode b_La_send 13 = .ok (.astore 4, 2) := by decide +kernel
theorem d_La_send_15 : decode b_La_send 15 = .ok (.iconst 1, 1) := by decide +kernel
theorem d_La_send_16 : decode b_La_send 16 = .ok (.ireturn, 1) := by decide +kernel
theorem d_La_send_17 : decode b_La_send 17 = .ok (.astore 4, 2) := by decide +kernel
theorem d_La_send_19 : decode b_La_send 19 = .ok (.iconst 2, 1) := by decide +kernel
theorem d_La_send_20 : decode b_La_send 20 = .ok (.ireturn, 1) := by decide +kernel
theorem d_La_send_21 : decode b_La_send 21 = .ok (.iconst 0, 1) := by decide +kernel
theorem d_La_send_22 : decode b_La_send 22 = .ok (.ireturn, 1) := by decide +kernel
theorem d_Ho_send_0 : decode b_Ho_send 0 = .ok (.iload_n 1, 1) := by decide +kernel
theorem d_Ho_send_1 : decode b_Ho_send 1 = .ok (.invokestatic 139, 3) := by decide +kernel
theorem d_Ho_send_4 : decode b_Ho_send 4 = .ok (.ifCond .eq 17, 3) := by decide +kernel
theorem d_Ho_send_7 : decode b_Ho_send 7 = .ok (.iload_n 2, 1) := by decide +kernel
theorem d_Ho_send_8 : decode b_Ho_send 8 = .ok (.iconst 1, 1) := by decide +kernel
theorem d_Ho_send_9 : decode b_Ho_send 9 = .ok (.bipush 40, 2) := by decide +kernel
theorem d_Ho_send_11 : decode b_Ho_send 11 = .ok (.invokestatic 89, 3) := by decide +kernel
theorem d_Ho_send_14 : decode b_Ho_send 14 = .ok (.ifCond .eq 7, 3) := by decide +kernel
theorem d_Ho_send_17 : decode b_Ho_send 17 = .ok (.iconst 1, 1) := by decide +kernel
theorem d_Ho_send_18 : decode b_Ho_send 18 = .ok (.goto 4, 3) := by decide +kernel
theorem d_Ho_send_21 : decode b_Ho_send 21 = .ok (.iconst 0, 1) := by decide +kernel
theorem d_Ho_send_22 : decode b_Ho_send 22 = .ok (.invokestatic 93, 3) := by decide +kernel
theorem d_Ho_send_25 : decode b_Ho_send 25 = .ok (.aload_n 0, 1) := by decide +kernel
theorem d_Ho_send_26 : decode b_Ho_send 26 = .ok (.invokevirtual 107, 3) := by decide +kernel
theorem d_Ho_send_29 : decode b_Ho_send 29 = .ok (.aload_n 0, 1) := by decide +kernel
theorem d_Ho_send_30 : decode b_Ho_send 30 = .ok (.getfield 19, 3) := by decide +kernel
theorem d_Ho_send_33 : decode b_Ho_send 33 = .ok (.iload_n 1, 1) := by decide +kernel
theorem d_Ho_send_34 : decode b_Ho_send 34 = .ok (.invokestatic 170, 3) := by decide +kernel
theorem d_Ho_send_37 : decode b_Ho_send 37 = .ok (.invokevirtual 173, 3) := by decide +kernel
theorem d_Ho_send_40 : decode b_Ho_send 40 = .ok (.ifCond .ne 5, 3) := by decide +kernel
theorem d_Ho_send_43 : decode b_Ho_send 43 = .ok (.iconst 4, 1) := by decide +kernel
theorem d_Ho_send_44 : decode b_Ho_send 44 = .ok (.ireturn, 1) := by decide +kernel
theorem d_Ho_send_45 : decode b_Ho_send 45 = .ok (.iload_n 2, 1) := by decide +kernel
theorem d_Ho_send_46 : decode b_Ho_send 46 = .ok (.aload_n 0, 1) := by decide +kernel
theorem d_Ho_send_47 : decode b_Ho_send 47 = .ok (.iload_n 1, 1) := by decide +kernel
theorem d_Ho_send_48 : decode b_Ho_send 48 = .ok (.invokevirtual 177, 3) := by decide +kernel
theorem d_Ho_send_51 : decode b_Ho_send 51 = .ok (.if_icmp .le 5, 3) := by decide +kernel
theorem d_Ho_send_54 : decode b_Ho_send 54 = .ok (.iconst 2, 1) := by decide +kernel
theorem d_Ho_send_55 : decode b_Ho_send 55 = .ok (.ireturn, 1) := by decide +kernel
theorem d_Ho_send_56 : decode b_Ho_send 56 = .ok (.aload_n 0, 1) := by decide +kernel
theorem d_Ho_send_57 : decode b_Ho_send 57 = .ok (.iload_n 1, 1) := by decide +kernel
theorem d_Ho_send_58 : decode b_Ho_send 58 = .ok (.invokevirtual 180, 3) := by decide +kernel
theorem d_Ho_send_61 : decode b_Ho_send 61 = .ok (.ifCond .eq 7, 3) := by decide +kernel
theorem d_Ho_send_64 : decode b_Ho_send 64 = .ok (.iload_n 1, 1) := by decide +kernel
theorem d_Ho_send_65 : decode b_Ho_send 65 = .ok (.goto 7, 3) := by decide +kernel
theorem d_Ho_send_68 : decode b_Ho_send 68 = .ok (.aload_n 0, 1) := by decide +kernel
theorem d_Ho_send_69 : decode b_Ho_send 69 = .ok (.invokevirtual 183, 3) := by decide +kernel
theorem d_Ho_send_72 : decode b_Ho_send 72 = .ok (.istore_n 3, 1) := by decide +kernel
theorem d_Ho_send_73 : decode b_Ho_send 73 = .ok (.iload_n 3, 1) := by decide +kernel
theorem d_Ho_send_74 : decode b_Ho_send 74 = .ok (.ifCond .ne 5, 3) := by decide +kernel
theorem d_Ho_send_77 : decode b_Ho_send 77 = .ok (.iconst 3, 1) := by decide +kernel
theorem d_Ho_send_78 : decode b_Ho_send 78 = .ok (.ireturn, 1) := by decide +kernel
theorem d_Ho_send_79 : decode b_Ho_send 79 = .ok (.aload_n 0, 1) := by decide +kernel
theorem d_Ho_send_80 : decode b_Ho_send 80 = .ok (.iload_n 3, 1) := by decide +kernel
theorem d_Ho_send_81 : decode b_Ho_send 81 = .ok (.iload_n 2, 1) := by decide +kernel
theorem d_Ho_send_82 : decode b_Ho_send 82 = .ok (.invokevirtual 187, 3) := by decide +kernel
theorem d_Ho_send_85 : decode b_Ho_send 85 = .ok (.ireturn, 1) := by decide +kernel
theorem d_Or_hasUsable_0 : decode b_Or_hasUsable 0 = .ok (.iconst 0, 1) := by decide +kernel
theorem d_Or_hasUsable_1 : decode b_Or_hasUsable 1 = .ok (.istore_n 2, 1) := by decide +kernel
theorem d_Or_hasUsable_2 : decode b_Or_hasUsable 2 = .ok (.iload_n 2, 1) := by decide +kernel
theorem d_Or_hasUsable_3 : decode b_Or_hasUsable 3 = .ok (.aload_n 0, 1) := by decide +kernel
theorem d_Or_hasUsable_4 : decode b_Or_hasUsable 4 = .ok (.getfield 10, 3) := by decide +kernel
theorem d_Or_hasUsable_7 : decode b_Or_hasUsable 7 = .ok (.invokevirtual 16, 3) := by decide +kernel
theorem d_Or_hasUsable_10 : decode b_Or_hasUsable 10 = .ok (.if_icmp .ge 41, 3) := by decide +kernel
theorem d_Or_hasUsable_13 : decode b_Or_hasUsable 13 = .ok (.aload_n 0, 1) := by decide +kernel
theorem d_Or_hasUsable_14 : decode b_Or_hasUsable 14 = .ok (.getfield 10, 3) := by decide +kernel
theorem d_Or_hasUsable_17 : decode b_Or_hasUsable 17 = .ok (.iload_n 2, 1) := by decide +kernel
theorem d_Or_hasUsable_18 : decode b_Or_hasUsable 18 = .ok (.invokevirtual 20, 3) := by decide +kernel
theorem d_Or_hasUsable_21 : decode b_Or_hasUsable 21 = .ok (.checkcast 24, 3) := by decide +kernel
theorem d_Or_hasUsable_24 : decode b_Or_hasUsable 24 = .ok (.astore_n 3, 1) := by decide +kernel
theorem d_Or_hasUsable_25 : decode b_Or_hasUsable 25 = .ok (.aload_n 3, 1) := by decide +kernel
theorem d_Or_hasUsable_26 : decode b_Or_hasUsable 26 = .ok (.invokevirtual 34, 3) := by decide +kernel
theorem d_Or_hasUsable_29 : decode b_Or_hasUsable 29 = .ok (.ifCond .eq 16, 3) := by decide +kernel
theorem d_Or_hasUsable_32 : decode b_Or_hasUsable 32 = .ok (.aload_n 3, 1) := by decide +kernel
theorem d_Or_hasUsable_33 : decode b_Or_hasUsable 33 = .ok (.getfield 30, 3) := by decide +kernel
theorem d_Or_hasUsable_36 : decode b_Or_hasUsable 36 = .ok (.invokestatic 38, 3) := by decide +kernel
theorem d_Or_hasUsable_39 : decode b_Or_hasUsable 39 = .ok (.iload_n 1, 1) := by decide +kernel
theorem d_Or_hasUsable_40 : decode b_Or_hasUsable 40 = .ok (.if_icmp .ne 5, 3) := by decide +kernel
theorem d_Or_hasUsable_43 : decode b_Or_hasUsable 43 = .ok (.iconst 1, 1) := by decide +kernel
theorem d_Or_hasUsable_44 : decode b_Or_hasUsable 44 = .ok (.ireturn, 1) := by decide +kernel
theorem d_Or_hasUsable_45 : decode b_Or_hasUsable 45 = .ok (.iinc 2 1, 3) := by decide +kernel
theorem d_Or_hasUsable_48 : decode b_Or_hasUsable 48 = .ok (.goto (-46), 3) := by decide +kernel
theorem d_Or_hasUsable_51 : decode b_Or_hasUsable 51 = .ok (.iconst 0, 1) := by decide +kernel
theorem d_Or_hasUsable_52 : decode b_Or_hasUsable 52 = .ok (.ireturn, 1) := by decide +kernel
theorem d_Ho_isOnLink_0 : decode b_Ho_isOnLink 0 = .ok (.iload_n 1, 1) := by decide +kernel
theorem d_Ho_isOnLink_1 : decode b_Ho_isOnLink 1 = .ok (.invokestatic 170, 3) := by decide +kernel
theorem d_Ho_isOnLink_4 : decode b_Ho_isOnLink 4 = .ok (.ifCond .ne 17, 3) := by decide +kernel
theorem d_Ho_isOnLink_7 : decode b_Ho_isOnLink 7 = .ok (.aload_n 0, 1) := by decide +kernel
theorem d_Ho_isOnLink_8 : decode b_Ho_isOnLink 8 = .ok (.getfield 39, 3) := by decide +kernel
theorem d_Ho_isOnLink_11 : decode b_Ho_isOnLink 11 = .ok (.iload_n 1, 1) := by decide +kernel
theorem d_Ho_isOnLink_12 : decode b_Ho_isOnLink 12 = .ok (.invokestatic 277, 3) := by decide +kernel
theorem d_Ho_isOnLink_15 : decode b_Ho_isOnLink 15 = .ok (.invokevirtual 243, 3) := by decide +kernel
theorem d_Ho_isOnLink_18 : decode b_Ho_isOnLink 18 = .ok (.ifnull 7, 3) := by decide +kernel
theorem d_Ho_isOnLink_21 : decode b_Ho_isOnLink 21 = .ok (.iconst 1, 1) := by decide +kernel
theorem d_Ho_isOnLink_22 : decode b_Ho_isOnLink 22 = .ok (.goto 4, 3) := by decide +kernel
theorem d_Ho_isOnLink_25 : decode b_Ho_isOnLink 25 = .ok (.iconst 0, 1) := by decide +kernel
theorem d_Ho_isOnLink_26 : decode b_Ho_isOnLink 26 = .ok (.ireturn, 1) := by decide +kernel
theorem d_Ho_pickRouter_0 : decode b_Ho_pickRouter 0 = .ok (.iconst 0, 1) := by decide +kernel
theorem d_Ho_pickRouter_1 : decode b_Ho_pickRouter 1 = .ok (.istore_n 1, 1) := by decide +kernel
theorem d_Ho_pickRouter_2 : decode b_Ho_pickRouter 2 = .ok (.iload_n 1, 1) := by decide +kernel
theorem d_Ho_pickRouter_3 : decode b_Ho_pickRouter 3 = .ok (.aload_n 0, 1) := by decide +kernel
theorem d_Ho_pickRouter_4 : decode b_Ho_pickRouter 4 = .ok (.getfield 35, 3) := by decide +kernel
theorem d_Ho_pickRouter_7 : decode b_Ho_pickRouter 7 = .ok (.invokevirtual 218, 3) := by decide +kernel
theorem d_Ho_pickRouter_10 : decode b_Ho_pickRouter 10 = .ok (.if_icmp .ge 45, 3) := by decide +kernel
theorem d_Ho_pickRouter_13 : decode b_Ho_pickRouter 13 = .ok (.aload_n 0, 1) := by decide +kernel
theorem d_Ho_pickRouter_14 : decode b_Ho_pickRouter 14 = .ok (.getfield 26, 3) := by decide +kernel
theorem d_Ho_pickRouter_17 : decode b_Ho_pickRouter 17 = .ok (.aload_n 0, 1) := by decide +kernel
theorem d_Ho_pickRouter_18 : decode b_Ho_pickRouter 18 = .ok (.getfield 35, 3) := by decide +kernel
theorem d_Ho_pickRouter_21 : decode b_Ho_pickRouter 21 = .ok (.iload_n 1, 1) := by decide +kernel
theorem d_Ho_pickRouter_22 : decode b_Ho_pickRouter 22 = .ok (.invokevirtual 338, 3) := by decide +kernel
theorem d_Ho_pickRouter_25 : decode b_Ho_pickRouter 25 = .ok (.getfield 340, 3) := by decide +kernel
theorem d_Ho_pickRouter_28 : decode b_Ho_pickRouter 28 = .ok (.invokevirtual 163, 3) := by decide +kernel
theorem d_Ho_pickRouter_31 : decode b_Ho_pickRouter 31 = .ok (.astore_n 2, 1) := by decide +kernel
theorem d_Ho_pickRouter_32 : decode b_Ho_pickRouter 32 = .ok (.aload_n 2, 1) := by decide +kernel
theorem d_Ho_pickRouter_33 : decode b_Ho_pickRouter 33 = .ok (.ifnull 16, 3) := by decide +kernel
theorem d_Ho_pickRouter_36 : decode b_Ho_pickRouter 36 = .ok (.aload_n 2, 1) := by decide +kernel
theorem d_Ho_pickRouter_37 : decode b_Ho_pickRouter 37 = .ok (.getfield 236, 3) := by decide +kernel
theorem d_Ho_pickRouter_40 : decode b_Ho_pickRouter 40 = .ok (.iconst 1, 1) := by decide +kernel
theorem d_Ho_pickRouter_41 : decode b_Ho_pickRouter 41 = .ok (.if_icmp .eq 8, 3) := by decide +kernel
theorem d_Ho_pickRouter_44 : decode b_Ho_pickRouter 44 = .ok (.aload_n 2, 1) := by decide +kernel
theorem d_Ho_pickRouter_45 : decode b_Ho_pickRouter 45 = .ok (.getfield 337, 3) := by decide +kernel
theorem d_Ho_pickRouter_48 : decode b_Ho_pickRouter 48 = .ok (.ireturn, 1) := by decide +kernel
theorem d_Ho_pickRouter_49 : decode b_Ho_pickRouter 49 = .ok (.iinc 1 1, 3) := by decide +kernel
theorem d_Ho_pickRouter_52 : decode b_Ho_pickRouter 52 = .ok (.goto (-50), 3) := by decide +kernel
theorem d_Ho_pickRouter_55 : decode b_Ho_pickRouter 55 = .ok (.aload_n 0, 1) := by decide +kernel
theorem d_Ho_pickRouter_56 : decode b_Ho_pickRouter 56 = .ok (.getfield 35, 3) := by decide +kernel
theorem d_Ho_pickRouter_59 : decode b_Ho_pickRouter 59 = .ok (.invokevirtual 218, 3) := by decide +kernel
theorem d_Ho_pickRouter_62 : decode b_Ho_pickRouter 62 = .ok (.ifCond .ne 7, 3) := by decide +kernel
theorem d_Ho_pickRouter_65 : decode b_Ho_pickRouter 65 = .ok (.iconst 0, 1) := by decide +kernel
theorem d_Ho_pickRouter_66 : decode b_Ho_pickRouter 66 = .ok (.goto 14, 3) := by decide +kernel
theorem d_Ho_pickRouter_69 : decode b_Ho_pickRouter 69 = .ok (.aload_n 0, 1) := by decide +kernel
theorem d_Ho_pickRouter_70 : decode b_Ho_pickRouter 70 = .ok (.getfield 35, 3) := by decide +kernel
theorem d_Ho_pickRouter_73 : decode b_Ho_pickRouter 73 = .ok (.iconst 0, 1) := by decide +kernel
theorem d_Ho_pickRouter_74 : decode b_Ho_pickRouter 74 = .ok (.invokevirtual 338, 3) := by decide +kernel
theorem d_Ho_pickRouter_77 : decode b_Ho_pickRouter 77 = .ok (.getfield 340, 3) := by decide +kernel
theorem d_Ho_pickRouter_80 : decode b_Ho_pickRouter 80 = .ok (.ireturn, 1) := by decide +kernel
