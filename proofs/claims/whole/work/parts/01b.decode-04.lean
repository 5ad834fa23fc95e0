/-! decode rows: by a program -/
theorem d_Mo_dropOwn_0 : decode b_Mo_dropOwn 0 = .ok (.aload_n 0, 1) := by decide +kernel
theorem d_Mo_dropOwn_1 : decode b_Mo_dropOwn 1 = .ok (.dup, 1) := by decide +kernel
theorem d_Mo_dropOwn_2 : decode b_Mo_dropOwn 2 = .ok (.getfield 96, 3) := by decide +kernel
theorem d_Mo_dropOwn_5 : decode b_Mo_dropOwn 5 = .ok (.iconst 1, 1) := by decide +kernel
theorem d_Mo_dropOwn_6 : decode b_Mo_dropOwn 6 = .ok (.isub, 1) := by decide +kernel
theorem d_Mo_dropOwn_7 : decode b_Mo_dropOwn 7 = .ok (.putfield 96, 3) := by decide +kernel
theorem d_Mo_dropOwn_10 : decode b_Mo_dropOwn 10 = .ok (.iload_n 1, 1) := by decide +kernel
theorem d_Mo_dropOwn_11 : decode b_Mo_dropOwn 11 = .ok (.istore_n 2, 1) := by decide +kernel
theorem d_Mo_dropOwn_12 : decode b_Mo_dropOwn 12 = .ok (.iload_n 2, 1) := by decide +kernel
theorem d_Mo_dropOwn_13 : decode b_Mo_dropOwn 13 = .ok (.aload_n 0, 1) := by decide +kernel
theorem d_Mo_dropOwn_14 : decode b_Mo_dropOwn 14 = .ok (.getfield 96, 3) := by decide +kernel
theorem d_Mo_dropOwn_17 : decode b_Mo_dropOwn 17 = .ok (.if_icmp .ge 79, 3) := by decide +kernel
theorem d_Mo_dropOwn_20 : decode b_Mo_dropOwn 20 = .ok (.aload_n 0, 1) := by decide +kernel
theorem d_Mo_dropOwn_21 : decode b_Mo_dropOwn 21 = .ok (.getfield 26, 3) := by decide +kernel
theorem d_Mo_dropOwn_24 : decode b_Mo_dropOwn 24 = .ok (.iload_n 2, 1) := by decide +kernel
theorem d_Mo_dropOwn_25 : decode b_Mo_dropOwn 25 = .ok (.aload_n 0, 1) := by decide +kernel
theorem d_Mo_dropOwn_26 : decode b_Mo_dropOwn 26 = .ok (.getfield 26, 3) := by decide +kernel
theorem d_Mo_dropOwn_29 : decode b_Mo_dropOwn 29 = .ok (.iload_n 2, 1) := by decide +kernel
theorem d_Mo_dropOwn_30 : decode b_Mo_dropOwn 30 = .ok (.iconst 1, 1) := by decide +kernel
theorem d_Mo_dropOwn_31 : decode b_Mo_dropOwn 31 = .ok (.iadd, 1) := by decide +kernel
theorem d_Mo_dropOwn_32 : decode b_Mo_dropOwn 32 = .ok (.iaload, 1) := by decide +kernel
theorem d_Mo_dropOwn_33 : decode b_Mo_dropOwn 33 = .ok (.iastore, 1) := by decide +kernel
theorem d_Mo_dropOwn_34 : decode b_Mo_dropOwn 34 = .ok (.aload_n 0, 1) := by decide +kernel
theorem d_Mo_dropOwn_35 : decode b_Mo_dropOwn 35 = .ok (.getfield 29, 3) := by decide +kernel
theorem d_Mo_dropOwn_38 : decode b_Mo_dropOwn 38 = .ok (.iload_n 2, 1) := by decide +kernel
theorem d_Mo_dropOwn_39 : decode b_Mo_dropOwn 39 = .ok (.aload_n 0, 1) := by decide +kernel
theorem d_Mo_dropOwn_40 : decode b_Mo_dropOwn 40 = .ok (.getfield 29, 3) := by decide +kernel
theorem d_Mo_dropOwn_43 : decode b_Mo_dropOwn 43 = .ok (.iload_n 2, 1) := by decide +kernel
theorem d_Mo_dropOwn_44 : decode b_Mo_dropOwn 44 = .ok (.iconst 1, 1) := by decide +kernel
theorem d_Mo_dropOwn_45 : decode b_Mo_dropOwn 45 = .ok (.iadd, 1) := by decide +kernel
theorem d_Mo_dropOwn_46 : decode b_Mo_dropOwn 46 = .ok (.iaload, 1) := by decide +kernel
theorem d_Mo_dropOwn_47 : decode b_Mo_dropOwn 47 = .ok (.iastore, 1) := by decide +kernel
theorem d_Mo_dropOwn_48 : decode b_Mo_dropOwn 48 = .ok (.aload_n 0, 1) := by decide +kernel
theorem d_Mo_dropOwn_49 : decode b_Mo_dropOwn 49 = .ok (.getfield 32, 3) := by decide +kernel
theorem d_Mo_dropOwn_52 : decode b_Mo_dropOwn 52 = .ok (.iload_n 2, 1) := by decide +kernel
theorem d_Mo_dropOwn_53 : decode b_Mo_dropOwn 53 = .ok (.aload_n 0, 1) := by decide +kernel
theorem d_Mo_dropOwn_54 : decode b_Mo_dropOwn 54 = .ok (.getfield 32, 3) := by decide +kernel
theorem d_Mo_dropOwn_57 : decode b_Mo_dropOwn 57 = .ok (.iload_n 2, 1) := by decide +kernel
theorem d_Mo_dropOwn_58 : decode b_Mo_dropOwn 58 = .ok (.iconst 1, 1) := by decide +kernel
theorem d_Mo_dropOwn_59 : decode b_Mo_dropOwn 59 = .ok (.iadd, 1) := by decide +kernel
theorem d_Mo_dropOwn_60 : decode b_Mo_dropOwn 60 = .ok (.iaload, 1) := by decide +kernel
theorem d_Mo_dropOwn_61 : decode b_Mo_dropOwn 61 = .ok (.iastore, 1) := by decide +kernel
theorem d_Mo_dropOwn_62 : decode b_Mo_dropOwn 62 = .ok (.aload_n 0, 1) := by decide +kernel
theorem d_Mo_dropOwn_63 : decode b_Mo_dropOwn 63 = .ok (.getfield 35, 3) := by decide +kernel
theorem d_Mo_dropOwn_66 : decode b_Mo_dropOwn 66 = .ok (.iload_n 2, 1) := by decide +kernel
theorem d_Mo_dropOwn_67 : decode b_Mo_dropOwn 67 = .ok (.aload_n 0, 1) := by decide +kernel
theorem d_Mo_dropOwn_68 : decode b_Mo_dropOwn 68 = .ok (.getfield 35, 3) := by decide +kernel
theorem d_Mo_dropOwn_71 : decode b_Mo_dropOwn 71 = .ok (.iload_n 2, 1) := by decide +kernel
theorem d_Mo_dropOwn_72 : decode b_Mo_dropOwn 72 = .ok (.iconst 1, 1) := by decide +kernel
theorem d_Mo_dropOwn_73 : decode b_Mo_dropOwn 73 = .ok (.iadd, 1) := by decide +kernel
theorem d_Mo_dropOwn_74 : decode b_Mo_dropOwn 74 = .ok (.iaload, 1) := by decide +kernel
theorem d_Mo_dropOwn_75 : decode b_Mo_dropOwn 75 = .ok (.iastore, 1) := by decide +kernel
theorem d_Mo_dropOwn_76 : decode b_Mo_dropOwn 76 = .ok (.aload_n 0, 1) := by decide +kernel
theorem d_Mo_dropOwn_77 : decode b_Mo_dropOwn 77 = .ok (.getfield 38, 3) := by decide +kernel
theorem d_Mo_dropOwn_80 : decode b_Mo_dropOwn 80 = .ok (.iload_n 2, 1) := by decide +kernel
theorem d_Mo_dropOwn_81 : decode b_Mo_dropOwn 81 = .ok (.aload_n 0, 1) := by decide +kernel
theorem d_Mo_dropOwn_82 : decode b_Mo_dropOwn 82 = .ok (.getfield 38, 3) := by decide +kernel
theorem d_Mo_dropOwn_85 : decode b_Mo_dropOwn 85 = .ok (.iload_n 2, 1) := by decide +kernel
theorem d_Mo_dropOwn_86 : decode b_Mo_dropOwn 86 = .ok (.iconst 1, 1) := by decide +kernel
theorem d_Mo_dropOwn_87 : decode b_Mo_dropOwn 87 = .ok (.iadd, 1) := by decide +kernel
theorem d_Mo_dropOwn_88 : decode b_Mo_dropOwn 88 = .ok (.iaload, 1) := by decide +kernel
theorem d_Mo_dropOwn_89 : decode b_Mo_dropOwn 89 = .ok (.iastore, 1) := by decide +kernel
theorem d_Mo_dropOwn_90 : decode b_Mo_dropOwn 90 = .ok (.iinc 2 1, 3) := by decide +kernel
theorem d_Mo_dropOwn_93 : decode b_Mo_dropOwn 93 = .ok (.goto (-81), 3) := by decide +kernel
theorem d_Mo_dropOwn_96 : decode b_Mo_dropOwn 96 = .ok (.return_, 1) := by decide +kernel
theorem d_Mo_ageNeighbours_0 : decode b_Mo_ageNeighbours 0 = .ok (.iconst 0, 1) := by decide +kernel
theorem d_Mo_ageNeighbours_1 : decode b_Mo_ageNeighbours 1 = .ok (.istore_n 1, 1) := by decide +kernel
theorem d_Mo_ageNeighbours_2 : decode b_Mo_ageNeighbours 2 = .ok (.iload_n 1, 1) := by decide +kernel
theorem d_Mo_ageNeighbours_3 : decode b_Mo_ageNeighbours 3 = .ok (.aload_n 0, 1) := by decide +kernel
theorem d_Mo_ageNeighbours_4 : decode b_Mo_ageNeighbours 4 = .ok (.getfield 119, 3) := by decide +kernel
theorem d_Mo_ageNeighbours_7 : decode b_Mo_ageNeighbours 7 = .ok (.if_icmp .ge 25, 3) := by decide +kernel
theorem d_Mo_ageNeighbours_10 : decode b_Mo_ageNeighbours 10 = .ok (.aload_n 0, 1) := by decide +kernel
theorem d_Mo_ageNeighbours_11 : decode b_Mo_ageNeighbours 11 = .ok (.iload_n 1, 1) := by decide +kernel
theorem d_Mo_ageNeighbours_12 : decode b_Mo_ageNeighbours 12 = .ok (.invokevirtual 148, 3) := by decide +kernel
theorem d_Mo_ageNeighbours_15 : decode b_Mo_ageNeighbours 15 = .ok (.ifCond .eq 11, 3) := by decide +kernel
theorem d_Mo_ageNeighbours_18 : decode b_Mo_ageNeighbours 18 = .ok (.aload_n 0, 1) := by decide +kernel
theorem d_Mo_ageNeighbours_19 : decode b_Mo_ageNeighbours 19 = .ok (.iload_n 1, 1) := by decide +kernel
theorem d_Mo_ageNeighbours_20 : decode b_Mo_ageNeighbours 20 = .ok (.invokevirtual 122, 3) := by decide +kernel
theorem d_Mo_ageNeighbours_23 : decode b_Mo_ageNeighbours 23 = .ok (.goto (-21), 3) := by decide +kernel
theorem d_Mo_ageNeighbours_26 : decode b_Mo_ageNeighbours 26 = .ok (.iinc 1 1, 3) := by decide +kernel
theorem d_Mo_ageNeighbours_29 : decode b_Mo_ageNeighbours 29 = .ok (.goto (-27), 3) := by decide +kernel
theorem d_Mo_ageNeighbours_32 : decode b_Mo_ageNeighbours 32 = .ok (.return_, 1) := by decide +kernel
theorem d_Mo_ageNeighbour_0 : decode b_Mo_ageNeighbour 0 = .ok (.aload_n 0, 1) := by decide +kernel
theorem d_Mo_ageNeighbour_1 : decode b_Mo_ageNeighbour 1 = .ok (.getfield 89, 3) := by decide +kernel
theorem d_Mo_ageNeighbour_4 : decode b_Mo_ageNeighbour 4 = .ok (.aload_n 0, 1) := by decide +kernel
theorem d_Mo_ageNeighbour_5 : decode b_Mo_ageNeighbour 5 = .ok (.getfield 54, 3) := by decide +kernel
theorem d_Mo_ageNeighbour_8 : decode b_Mo_ageNeighbour 8 = .ok (.iload_n 1, 1) := by decide +kernel
theorem d_Mo_ageNeighbour_9 : decode b_Mo_ageNeighbour 9 = .ok (.iaload, 1) := by decide +kernel
theorem d_Mo_ageNeighbour_10 : decode b_Mo_ageNeighbour 10 = .ok (.isub, 1) := by decide +kernel
theorem d_Mo_ageNeighbour_11 : decode b_Mo_ageNeighbour 11 = .ok (.istore_n 2, 1) := by decide +kernel
theorem d_Mo_ageNeighbour_12 : decode b_Mo_ageNeighbour 12 = .ok (.aload_n 0, 1) := by decide +kernel
theorem d_Mo_ageNeighbour_13 : decode b_Mo_ageNeighbour 13 = .ok (.getfield 51, 3) := by decide +kernel
theorem d_Mo_ageNeighbour_16 : decode b_Mo_ageNeighbour 16 = .ok (.iload_n 1, 1) := by decide +kernel
theorem d_Mo_ageNeighbour_17 : decode b_Mo_ageNeighbour 17 = .ok (.iaload, 1) := by decide +kernel
theorem d_Mo_ageNeighbour_18 : decode b_Mo_ageNeighbour 18 = .ok (.iconst 1, 1) := by decide +kernel
theorem d_Mo_ageNeighbour_19 : decode b_Mo_ageNeighbour 19 = .ok (.if_icmp .eq 13, 3) := by decide +kernel
theorem d_Mo_ageNeighbour_22 : decode b_Mo_ageNeighbour 22 = .ok (.aload_n 0, 1) := by decide +kernel
theorem d_Mo_ageNeighbour_23 : decode b_Mo_ageNeighbour 23 = .ok (.getfield 51, 3) := by decide +kernel
theorem d_Mo_ageNeighbour_26 : decode b_Mo_ageNeighbour 26 = .ok (.iload_n 1, 1) := by decide +kernel
theorem d_Mo_ageNeighbour_27 : decode b_Mo_ageNeighbour 27 = .ok (.iaload, 1) := by decide +kernel
theorem d_Mo_ageNeighbour_28 : decode b_Mo_ageNeighbour 28 = .ok (.iconst 5, 1) := by decide +kernel
theorem d_Mo_ageNeighbour_29 : decode b_Mo_ageNeighbour 29 = .ok (.if_icmp .ne 51, 3) := by decide +kernel
theorem d_Mo_ageNeighbour_32 : decode b_Mo_ageNeighbour 32 = .ok (.iload_n 2, 1) := by decide +kernel
theorem d_Mo_ageNeighbour_33 : decode b_Mo_ageNeighbour 33 = .ok (.iconst 3, 1) := by decide +kernel
theorem d_Mo_ageNeighbour_34 : decode b_Mo_ageNeighbour 34 = .ok (.if_icmp .ne 38, 3) := by decide +kernel
theorem d_Mo_ageNeighbour_37 : decode b_Mo_ageNeighbour 37 = .ok (.aload_n 0, 1) := by decide +kernel
theorem d_Mo_ageNeighbour_38 : decode b_Mo_ageNeighbour 38 = .ok (.dup, 1) := by decide +kernel
theorem d_Mo_ageNeighbour_39 : decode b_Mo_ageNeighbour 39 = .ok (.getfield 142, 3) := by decide +kernel
theorem d_Mo_ageNeighbour_42 : decode b_Mo_ageNeighbour 42 = .ok (.aload_n 0, 1) := by decide +kernel
theorem d_Mo_ageNeighbour_43 : decode b_Mo_ageNeighbour 43 = .ok (.getfield 51, 3) := by decide +kernel
theorem d_Mo_ageNeighbour_46 : decode b_Mo_ageNeighbour 46 = .ok (.iload_n 1, 1) := by decide +kernel
theorem d_Mo_ageNeighbour_47 : decode b_Mo_ageNeighbour 47 = .ok (.iaload, 1) := by decide +kernel
theorem d_Mo_ageNeighbour_48 : decode b_Mo_ageNeighbour 48 = .ok (.iconst 1, 1) := by decide +kernel
theorem d_Mo_ageNeighbour_49 : decode b_Mo_ageNeighbour 49 = .ok (.if_icmp .ne 16, 3) := by decide +kernel
theorem d_Mo_ageNeighbour_52 : decode b_Mo_ageNeighbour 52 = .ok (.aload_n 0, 1) := by decide +kernel
theorem d_Mo_ageNeighbour_53 : decode b_Mo_ageNeighbour 53 = .ok (.getfield 57, 3) := by decide +kernel
theorem d_Mo_ageNeighbour_56 : decode b_Mo_ageNeighbour 56 = .ok (.iload_n 1, 1) := by decide +kernel
theorem d_Mo_ageNeighbour_57 : decode b_Mo_ageNeighbour 57 = .ok (.iaload, 1) := by decide +kernel
theorem d_Mo_ageNeighbour_58 : decode b_Mo_ageNeighbour 58 = .ok (.ifCond .le 7, 3) := by decide +kernel
theorem d_Mo_ageNeighbour_61 : decode b_Mo_ageNeighbour 61 = .ok (.iconst 1, 1) := by decide +kernel
theorem d_Mo_ageNeighbour_62 : decode b_Mo_ageNeighbour 62 = .ok (.goto 4, 3) := by decide +kernel
theorem d_Mo_ageNeighbour_65 : decode b_Mo_ageNeighbour 65 = .ok (.iconst 0, 1) := by decide +kernel
theorem d_Mo_ageNeighbour_66 : decode b_Mo_ageNeighbour 66 = .ok (.iadd, 1) := by decide +kernel
theorem d_Mo_ageNeighbour_67 : decode b_Mo_ageNeighbour 67 = .ok (.putfield 142, 3) := by decide +kernel
theorem d_Mo_ageNeighbour_70 : decode b_Mo_ageNeighbour 70 = .ok (.iconst 1, 1) := by decide +kernel
theorem d_Mo_ageNeighbour_71 : decode b_Mo_ageNeighbour 71 = .ok (.ireturn, 1) := by decide +kernel
theorem d_Mo_ageNeighbour_72 : decode b_Mo_ageNeighbour 72 = .ok (.aload_n 0, 1) := by decide +kernel
theorem d_Mo_ageNeighbour_73 : decode b_Mo_ageNeighbour 73 = .ok (.iload_n 1, 1) := by decide +kernel
theorem d_Mo_ageNeighbour_74 : decode b_Mo_ageNeighbour 74 = .ok (.invokevirtual 145, 3) := by decide +kernel
theorem d_Mo_ageNeighbour_77 : decode b_Mo_ageNeighbour 77 = .ok (.goto 54, 3) := by decide +kernel
theorem d_Mo_ageNeighbour_80 : decode b_Mo_ageNeighbour 80 = .ok (.aload_n 0, 1) := by decide +kernel
theorem d_Mo_ageNeighbour_81 : decode b_Mo_ageNeighbour 81 = .ok (.getfield 51, 3) := by decide +kernel
theorem d_Mo_ageNeighbour_84 : decode b_Mo_ageNeighbour 84 = .ok (.iload_n 1, 1) := by decide +kernel
theorem d_Mo_ageNeighbour_85 : decode b_Mo_ageNeighbour 85 = .ok (.iaload, 1) := by decide +kernel
theorem d_Mo_ageNeighbour_86 : decode b_Mo_ageNeighbour 86 = .ok (.iconst 2, 1) := by decide +kernel
theorem d_Mo_ageNeighbour_87 : decode b_Mo_ageNeighbour 87 = .ok (.if_icmp .ne 18, 3) := by decide +kernel
theorem d_Mo_ageNeighbour_90 : decode b_Mo_ageNeighbour 90 = .ok (.iload_n 2, 1) := by decide +kernel
theorem d_Mo_ageNeighbour_91 : decode b_Mo_ageNeighbour 91 = .ok (.bipush 10, 2) := by decide +kernel
theorem d_Mo_ageNeighbour_93 : decode b_Mo_ageNeighbour 93 = .ok (.if_icmp .ne 12, 3) := by decide +kernel
theorem d_Mo_ageNeighbour_96 : decode b_Mo_ageNeighbour 96 = .ok (.aload_n 0, 1) := by decide +kernel
theorem d_Mo_ageNeighbour_97 : decode b_Mo_ageNeighbour 97 = .ok (.iload_n 1, 1) := by decide +kernel
theorem d_Mo_ageNeighbour_98 : decode b_Mo_ageNeighbour 98 = .ok (.iconst 3, 1) := by decide +kernel
theorem d_Mo_ageNeighbour_99 : decode b_Mo_ageNeighbour 99 = .ok (.invokevirtual 125, 3) := by decide +kernel
theorem d_Mo_ageNeighbour_102 : decode b_Mo_ageNeighbour 102 = .ok (.goto 29, 3) := by decide +kernel
theorem d_Mo_ageNeighbour_105 : decode b_Mo_ageNeighbour 105 = .ok (.aload_n 0, 1) := by decide +kernel
theorem d_Mo_ageNeighbour_106 : decode b_Mo_ageNeighbour 106 = .ok (.getfield 51, 3) := by decide +kernel
theorem d_Mo_ageNeighbour_109 : decode b_Mo_ageNeighbour 109 = .ok (.iload_n 1, 1) := by decide +kernel
theorem d_Mo_ageNeighbour_110 : decode b_Mo_ageNeighbour 110 = .ok (.iaload, 1) := by decide +kernel
theorem d_Mo_ageNeighbour_111 : decode b_Mo_ageNeighbour 111 = .ok (.iconst 4, 1) := by decide +kernel
theorem d_Mo_ageNeighbour_112 : decode b_Mo_ageNeighbour 112 = .ok (.if_icmp .ne 19, 3) := by decide +kernel
theorem d_Mo_ageNeighbour_115 : decode b_Mo_ageNeighbour 115 = .ok (.iload_n 2, 1) := by decide +kernel
theorem d_Mo_ageNeighbour_116 : decode b_Mo_ageNeighbour 116 = .ok (.iconst 5, 1) := by decide +kernel
theorem d_Mo_ageNeighbour_117 : decode b_Mo_ageNeighbour 117 = .ok (.if_icmp .ne 14, 3) := by decide +kernel
theorem d_Mo_ageNeighbour_120 : decode b_Mo_ageNeighbour 120 = .ok (.aload_n 0, 1) := by decide +kernel
theorem d_Mo_ageNeighbour_121 : decode b_Mo_ageNeighbour 121 = .ok (.iload_n 1, 1) := by decide +kernel
theorem d_Mo_ageNeighbour_122 : decode b_Mo_ageNeighbour 122 = .ok (.iconst 5, 1) := by decide +kernel
theorem d_Mo_ageNeighbour_123 : decode b_Mo_ageNeighbour 123 = .ok (.invokevirtual 125, 3) := by decide +kernel
theorem d_Mo_ageNeighbour_126 : decode b_Mo_ageNeighbour 126 = .ok (.aload_n 0, 1) := by decide +kernel
theorem d_Mo_ageNeighbour_127 : decode b_Mo_ageNeighbour 127 = .ok (.iload_n 1, 1) := by decide +kernel
theorem d_Mo_ageNeighbour_128 : decode b_Mo_ageNeighbour 128 = .ok (.invokevirtual 145, 3) := by decide +kernel
theorem d_Mo_ageNeighbour_131 : decode b_Mo_ageNeighbour 131 = .ok (.iconst 0, 1) := by decide +kernel
theorem d_Mo_ageNeighbour_132 : decode b_Mo_ageNeighbour 132 = .ok (.ireturn, 1) := by decide +kernel
theorem d_Mo_ask_0 : decode b_Mo_ask 0 = .ok (.aload_n 0, 1) := by decide +kernel
theorem d_Mo_ask_1 : decode b_Mo_ask 1 = .ok (.iconst 2, 1) := by decide +kernel
theorem d_Mo_ask_2 : decode b_Mo_ask 2 = .ok (.aload_n 0, 1) := by decide +kernel
theorem d_Mo_ask_3 : decode b_Mo_ask 3 = .ok (.getfield 51, 3) := by decide +kernel
theorem d_Mo_ask_6 : decode b_Mo_ask 6 = .ok (.iload_n 1, 1) := by decide +kernel
theorem d_Mo_ask_7 : decode b_Mo_ask 7 = .ok (.iaload, 1) := by decide +kernel
theorem d_Mo_ask_8 : decode b_Mo_ask 8 = .ok (.iconst 1, 1) := by decide +kernel
theorem d_Mo_ask_9 : decode b_Mo_ask 9 = .ok (.if_icmp .ne 8, 3) := by decide +kernel
theorem d_Mo_ask_12 : decode b_Mo_ask 12 = .ok (.ldc 103, 2) := by decide +kernel
theorem d_Mo_ask_14 : decode b_Mo_ask 14 = .ok (.goto 9, 3) := by decide +kernel
theorem d_Mo_ask_17 : decode b_Mo_ask 17 = .ok (.aload_n 0, 1) := by decide +kernel
theorem d_Mo_ask_18 : decode b_Mo_ask 18 = .ok (.getfield 41, 3) := by decide +kernel
theorem d_Mo_ask_21 : decode b_Mo_ask 21 = .ok (.iload_n 1, 1) := by decide +kernel
theorem d_Mo_ask_22 : decode b_Mo_ask 22 = .ok (.iaload, 1) := by decide +kernel
theorem d_Mo_ask_23 : decode b_Mo_ask 23 = .ok (.aload_n 0, 1) := by decide +kernel
theorem d_Mo_ask_24 : decode b_Mo_ask 24 = .ok (.getfield 41, 3) := by decide +kernel
theorem d_Mo_ask_27 : decode b_Mo_ask 27 = .ok (.iload_n 1, 1) := by decide +kernel
theorem d_Mo_ask_28 : decode b_Mo_ask 28 = .ok (.iaload, 1) := by decide +kernel
theorem d_Mo_ask_29 : decode b_Mo_ask 29 = .ok (.invokevirtual 104, 3) := by decide +kernel
theorem d_Mo_ask_32 : decode b_Mo_ask 32 = .ok (.return_, 1) := by decide +kernel
theorem d_Mo_turn_0 : decode b_Mo_turn 0 = .ok (.aload_n 0, 1) := by decide +kernel
theorem d_Mo_turn_1 : decode b_Mo_turn 1 = .ok (.getfield 51, 3) := by decide +kernel
theorem d_Mo_turn_4 : decode b_Mo_turn 4 = .ok (.iload_n 1, 1) := by decide +kernel
theorem d_Mo_turn_5 : decode b_Mo_turn 5 = .ok (.iload_n 2, 1) := by decide +kernel
theorem d_Mo_turn_6 : decode b_Mo_turn 6 = .ok (.iastore, 1) := by decide +kernel
theorem d_Mo_turn_7 : decode b_Mo_turn 7 = .ok (.aload_n 0, 1) := by decide +kernel
theorem d_Mo_turn_8 : decode b_Mo_turn 8 = .ok (.getfield 54, 3) := by decide +kernel
theorem d_Mo_turn_11 : decode b_Mo_turn 11 = .ok (.iload_n 1, 1) := by decide +kernel
theorem d_Mo_turn_12 : decode b_Mo_turn 12 = .ok (.aload_n 0, 1) := by decide +kernel
theorem d_Mo_turn_13 : decode b_Mo_turn 13 = .ok (.getfield 89, 3) := by decide +kernel
theorem d_Mo_turn_16 : decode b_Mo_turn 16 = .ok (.iastore, 1) := by decide +kernel
theorem d_Mo_turn_17 : decode b_Mo_turn 17 = .ok (.return_, 1) := by decide +kernel
theorem d_Mo_dropNeighbour_0 : decode b_Mo_dropNeighbour 0 = .ok (.aload_n 0, 1) := by decide +kernel
theorem d_Mo_dropNeighbour_1 : decode b_Mo_dropNeighbour 1 = .ok (.dup, 1) := by decide +kernel
theorem d_Mo_dropNeighbour_2 : decode b_Mo_dropNeighbour 2 = .ok (.getfield 119, 3) := by decide +kernel
theorem d_Mo_dropNeighbour_5 : decode b_Mo_dropNeighbour 5 = .ok (.iconst 1, 1) := by decide +kernel
theorem d_Mo_dropNeighbour_6 : decode b_Mo_dropNeighbour 6 = .ok (.isub, 1) := by decide +kernel
theorem d_Mo_dropNeighbour_7 : decode b_Mo_dropNeighbour 7 = .ok (.putfield 119, 3) := by decide +kernel
theorem d_Mo_dropNeighbour_10 : decode b_Mo_dropNeighbour 10 = .ok (.iload_n 1, 1) := by decide +kernel
theorem d_Mo_dropNeighbour_11 : decode b_Mo_dropNeighbour 11 = .ok (.istore_n 2, 1) := by decide +kernel
theorem d_Mo_dropNeighbour_12 : decode b_Mo_dropNeighbour 12 = .ok (.iload_n 2, 1) := by decide +kernel
theorem d_Mo_dropNeighbour_13 : decode b_Mo_dropNeighbour 13 = .ok (.aload_n 0, 1) := by decide +kernel
theorem d_Mo_dropNeighbour_14 : decode b_Mo_dropNeighbour 14 = .ok (.getfield 119, 3) := by decide +kernel
theorem d_Mo_dropNeighbour_17 : decode b_Mo_dropNeighbour 17 = .ok (.if_icmp .ge 93, 3) := by decide +kernel
theorem d_Mo_dropNeighbour_20 : decode b_Mo_dropNeighbour 20 = .ok (.aload_n 0, 1) := by decide +kernel
theorem d_Mo_dropNeighbour_21 : decode b_Mo_dropNeighbour 21 = .ok (.getfield 41, 3) := by decide +kernel
theorem d_Mo_dropNeighbour_24 : decode b_Mo_dropNeighbour 24 = .ok (.iload_n 2, 1) := by decide +kernel
theorem d_Mo_dropNeighbour_25 : decode b_Mo_dropNeighbour 25 = .ok (.aload_n 0, 1) := by decide +kernel
theorem d_Mo_dropNeighbour_26 : decode b_Mo_dropNeighbour 26 = .ok (.getfield 41, 3) := by decide +kernel
theorem d_Mo_dropNeighbour_29 : decode b_Mo_dropNeighbour 29 = .ok (.iload_n 2, 1) := by decide +kernel
theorem d_Mo_dropNeighbour_30 : decode b_Mo_dropNeighbour 30 = .ok (.iconst 1, 1) := by decide +kernel
theorem d_Mo_dropNeighbour_31 : decode b_Mo_dropNeighbour 31 = .ok (.iadd, 1) := by decide +kernel
theorem d_Mo_dropNeighbour_32 : decode b_Mo_dropNeighbour 32 = .ok (.iaload, 1) := by decide +kernel
theorem d_Mo_dropNeighbour_33 : decode b_Mo_dropNeighbour 33 = .ok (.iastore, 1) := by decide +kernel
theorem d_Mo_dropNeighbour_34 : decode b_Mo_dropNeighbour 34 = .ok (.aload_n 0, 1) := by decide +kernel
theorem d_Mo_dropNeighbour_35 : decode b_Mo_dropNeighbour 35 = .ok (.getfield 44, 3) := by decide +kernel
theorem d_Mo_dropNeighbour_38 : decode b_Mo_dropNeighbour 38 = .ok (.iload_n 2, 1) := by decide +kernel
theorem d_Mo_dropNeighbour_39 : decode b_Mo_dropNeighbour 39 = .ok (.aload_n 0, 1) := by decide +kernel
theorem d_Mo_dropNeighbour_40 : decode b_Mo_dropNeighbour 40 = .ok (.getfield 44, 3) := by decide +kernel
theorem d_Mo_dropNeighbour_43 : decode b_Mo_dropNeighbour 43 = .ok (.iload_n 2, 1) := by decide +kernel
theorem d_Mo_dropNeighbour_44 : decode b_Mo_dropNeighbour 44 = .ok (.iconst 1, 1) := by decide +kernel
theorem d_Mo_dropNeighbour_45 : decode b_Mo_dropNeighbour 45 = .ok (.iadd, 1) := by decide +kernel
theorem d_Mo_dropNeighbour_46 : decode b_Mo_dropNeighbour 46 = .ok (.iaload, 1) := by decide +kernel
theorem d_Mo_dropNeighbour_47 : decode b_Mo_dropNeighbour 47 = .ok (.iastore, 1) := by decide +kernel
theorem d_Mo_dropNeighbour_48 : decode b_Mo_dropNeighbour 48 = .ok (.aload_n 0, 1) := by decide +kernel
theorem d_Mo_dropNeighbour_49 : decode b_Mo_dropNeighbour 49 = .ok (.getfield 47, 3) := by decide +kernel
theorem d_Mo_dropNeighbour_52 : decode b_Mo_dropNeighbour 52 = .ok (.iload_n 2, 1) := by decide +kernel
theorem d_Mo_dropNeighbour_53 : decode b_Mo_dropNeighbour 53 = .ok (.aload_n 0, 1) := by decide +kernel
theorem d_Mo_dropNeighbour_54 : decode b_Mo_dropNeighbour 54 = .ok (.getfield 47, 3) := by decide +kernel
theorem d_Mo_dropNeighbour_57 : decode b_Mo_dropNeighbour 57 = .ok (.iload_n 2, 1) := by decide +kernel
theorem d_Mo_dropNeighbour_58 : decode b_Mo_dropNeighbour 58 = .ok (.iconst 1, 1) := by decide +kernel
theorem d_Mo_dropNeighbour_59 : decode b_Mo_dropNeighbour 59 = .ok (.iadd, 1) := by decide +kernel
theorem d_Mo_dropNeighbour_60 : decode b_Mo_dropNeighbour 60 = .ok (.baload, 1) := by decide +kernel
theorem d_Mo_dropNeighbour_61 : decode b_Mo_dropNeighbour 61 = .ok (.bastore, 1) := by decide +kernel
theorem d_Mo_dropNeighbour_62 : decode b_Mo_dropNeighbour 62 = .ok (.aload_n 0, 1) := by decide +kernel
theorem d_Mo_dropNeighbour_63 : decode b_Mo_dropNeighbour 63 = .ok (.getfield 51, 3) := by decide +kernel
theorem d_Mo_dropNeighbour_66 : decode b_Mo_dropNeighbour 66 = .ok (.iload_n 2, 1) := by decide +kernel
theorem d_Mo_dropNeighbour_67 : decode b_Mo_dropNeighbour 67 = .ok (.aload_n 0, 1) := by decide +kernel
theorem d_Mo_dropNeighbour_68 : decode b_Mo_dropNeighbour 68 = .ok (.getfield 51, 3) := by decide +kernel
theorem d_Mo_dropNeighbour_71 : decode b_Mo_dropNeighbour 71 = .ok (.iload_n 2, 1) := by decide +kernel
theorem d_Mo_dropNeighbour_72 : decode b_Mo_dropNeighbour 72 = .ok (.iconst 1, 1) := by decide +kernel
theorem d_Mo_dropNeighbour_73 : decode b_Mo_dropNeighbour 73 = .ok (.iadd, 1) := by decide +kernel
theorem d_Mo_dropNeighbour_74 : decode b_Mo_dropNeighbour 74 = .ok (.iaload, 1) := by decide +kernel
theorem d_Mo_dropNeighbour_75 : decode b_Mo_dropNeighbour 75 = .ok (.iastore, 1) := by decide +kernel
theorem d_Mo_dropNeighbour_76 : decode b_Mo_dropNeighbour 76 = .ok (.aload_n 0, 1) := by decide +kernel
theorem d_Mo_dropNeighbour_77 : decode b_Mo_dropNeighbour 77 = .ok (.getfield 54, 3) := by decide +kernel
theorem d_Mo_dropNeighbour_80 : decode b_Mo_dropNeighbour 80 = .ok (.iload_n 2, 1) := by decide +kernel
theorem d_Mo_dropNeighbour_81 : decode b_Mo_dropNeighbour 81 = .ok (.aload_n 0, 1) := by decide +kernel
theorem d_Mo_dropNeighbour_82 : decode b_Mo_dropNeighbour 82 = .ok (.getfield 54, 3) := by decide +kernel
theorem d_Mo_dropNeighbour_85 : decode b_Mo_dropNeighbour 85 = .ok (.iload_n 2, 1) := by decide +kernel
theorem d_Mo_dropNeighbour_86 : decode b_Mo_dropNeighbour 86 = .ok (.iconst 1, 1) := by decide +kernel
theorem d_Mo_dropNeighbour_87 : decode b_Mo_dropNeighbour 87 = .ok (.iadd, 1) := by decide +kernel
theorem d_Mo_dropNeighbour_88 : decode b_Mo_dropNeighbour 88 = .ok (.iaload, 1) := by decide +kernel
theorem d_Mo_dropNeighbour_89 : decode b_Mo_dropNeighbour 89 = .ok (.iastore, 1) := by decide +kernel
theorem d_Mo_dropNeighbour_90 : decode b_Mo_dropNeighbour 90 = .ok (.aload_n 0, 1) := by decide +kernel
theorem d_Mo_dropNeighbour_91 : decode b_Mo_dropNeighbour 91 = .ok (.getfield 57, 3) := by decide +kernel
theorem d_Mo_dropNeighbour_94 : decode b_Mo_dropNeighbour 94 = .ok (.iload_n 2, 1) := by decide +kernel
theorem d_Mo_dropNeighbour_95 : decode b_Mo_dropNeighbour 95 = .ok (.aload_n 0, 1) := by decide +kernel
theorem d_Mo_dropNeighbour_96 : decode b_Mo_dropNeighbour 96 = .ok (.getfield 57, 3) := by decide +kernel
theorem d_Mo_dropNeighbour_99 : decode b_Mo_dropNeighbour 99 = .ok (.iload_n 2, 1) := by decide +kernel
theorem d_Mo_dropNeighbour_100 : decode b_Mo_dropNeighbour 100 = .ok (.iconst 1, 1) := by decide +kernel
theorem d_Mo_dropNeighbour_101 : decode b_Mo_dropNeighbour 101 = .ok (.iadd, 1) := by decide +kernel
theorem d_Mo_dropNeighbour_102 : decode b_Mo_dropNeighbour 102 = .ok (.iaload, 1) := by decide +kernel
theorem d_Mo_dropNeighbour_103 : decode b_Mo_dropNeighbour 103 = .ok (.iastore, 1) := by decide +kernel
theorem d_Mo_dropNeighbour_104 : decode b_Mo_dropNeighbour 104 = .ok (.iinc 2 1, 3) := by decide +kernel
theorem d_Mo_dropNeighbour_107 : decode b_Mo_dropNeighbour 107 = .ok (.goto (-95), 3) := by decide +kernel
theorem d_Mo_dropNeighbour_110 : decode b_Mo_dropNeighbour 110 = .ok (.return_, 1) := by decide +kernel
theorem d_Mo_ageEntries_0 : decode b_Mo_ageEntries 0 = .ok (.iconst 0, 1) := by decide +kernel
theorem d_Mo_ageEntries_1 : decode b_Mo_ageEntries 1 = .ok (.istore_n 1, 1) := by decide +kernel
theorem d_Mo_ageEntries_2 : decode b_Mo_ageEntries 2 = .ok (.iload_n 1, 1) := by decide +kernel
theorem d_Mo_ageEntries_3 : decode b_Mo_ageEntries 3 = .ok (.iconst 3, 1) := by decide +kernel
theorem d_Mo_ageEntries_4 : decode b_Mo_ageEntries 4 = .ok (.if_icmp .ge 57, 3) := by decide +kernel
theorem d_Mo_ageEntries_7 : decode b_Mo_ageEntries 7 = .ok (.bipush 8, 2) := by decide +kernel
theorem d_Mo_ageEntries_9 : decode b_Mo_ageEntries 9 = .ok (.iload_n 1, 1) := by decide +kernel
theorem d_Mo_ageEntries_10 : decode b_Mo_ageEntries 10 = .ok (.imul, 1) := by decide +kernel
theorem d_Mo_ageEntries_11 : decode b_Mo_ageEntries 11 = .ok (.istore_n 2, 1) := by decide +kernel
theorem d_Mo_ageEntries_12 : decode b_Mo_ageEntries 12 = .ok (.iload_n 2, 1) := by decide +kernel
theorem d_Mo_ageEntries_13 : decode b_Mo_ageEntries 13 = .ok (.bipush 8, 2) := by decide +kernel
theorem d_Mo_ageEntries_15 : decode b_Mo_ageEntries 15 = .ok (.iload_n 1, 1) := by decide +kernel
theorem d_Mo_ageEntries_16 : decode b_Mo_ageEntries 16 = .ok (.imul, 1) := by decide +kernel
theorem d_Mo_ageEntries_17 : decode b_Mo_ageEntries 17 = .ok (.aload_n 0, 1) := by decide +kernel
theorem d_Mo_ageEntries_18 : decode b_Mo_ageEntries 18 = .ok (.getfield 60, 3) := by decide +kernel
theorem d_Mo_ageEntries_21 : decode b_Mo_ageEntries 21 = .ok (.iload_n 1, 1) := by decide +kernel
theorem d_Mo_ageEntries_22 : decode b_Mo_ageEntries 22 = .ok (.iaload, 1) := by decide +kernel
theorem d_Mo_ageEntries_23 : decode b_Mo_ageEntries 23 = .ok (.iadd, 1) := by decide +kernel
theorem d_Mo_ageEntries_24 : decode b_Mo_ageEntries 24 = .ok (.if_icmp .ge 31, 3) := by decide +kernel
theorem d_Mo_ageEntries_27 : decode b_Mo_ageEntries 27 = .ok (.aload_n 0, 1) := by decide +kernel
theorem d_Mo_ageEntries_28 : decode b_Mo_ageEntries 28 = .ok (.getfield 66, 3) := by decide +kernel
theorem d_Mo_ageEntries_31 : decode b_Mo_ageEntries 31 = .ok (.iload_n 2, 1) := by decide +kernel
theorem d_Mo_ageEntries_32 : decode b_Mo_ageEntries 32 = .ok (.iaload, 1) := by decide +kernel
theorem d_Mo_ageEntries_33 : decode b_Mo_ageEntries 33 = .ok (.aload_n 0, 1) := by decide +kernel
theorem d_Mo_ageEntries_34 : decode b_Mo_ageEntries 34 = .ok (.getfield 89, 3) := by decide +kernel
theorem d_Mo_ageEntries_37 : decode b_Mo_ageEntries 37 = .ok (.if_icmp .gt 12, 3) := by decide +kernel
theorem d_Mo_ageEntries_40 : decode b_Mo_ageEntries 40 = .ok (.aload_n 0, 1) := by decide +kernel
theorem d_Mo_ageEntries_41 : decode b_Mo_ageEntries 41 = .ok (.iload_n 1, 1) := by decide +kernel
theorem d_Mo_ageEntries_42 : decode b_Mo_ageEntries 42 = .ok (.iload_n 2, 1) := by decide +kernel
theorem d_Mo_ageEntries_43 : decode b_Mo_ageEntries 43 = .ok (.invokevirtual 155, 3) := by decide +kernel
theorem d_Mo_ageEntries_46 : decode b_Mo_ageEntries 46 = .ok (.goto (-34), 3) := by decide +kernel
theorem d_Mo_ageEntries_49 : decode b_Mo_ageEntries 49 = .ok (.iinc 2 1, 3) := by decide +kernel
theorem d_Mo_ageEntries_52 : decode b_Mo_ageEntries 52 = .ok (.goto (-40), 3) := by decide +kernel
theorem d_Mo_ageEntries_55 : decode b_Mo_ageEntries 55 = .ok (.iinc 1 1, 3) := by decide +kernel
theorem d_Mo_ageEntries_58 : decode b_Mo_ageEntries 58 = .ok (.goto (-56), 3) := by decide +kernel
theorem d_Mo_ageEntries_61 : decode b_Mo_ageEntries 61 = .ok (.return_, 1) := by decide +kernel
theorem d_Mo_dropEntry_0 : decode b_Mo_dropEntry 0 = .ok (.aload_n 0, 1) := by decide +kernel
theorem d_Mo_dropEntry_1 : decode b_Mo_dropEntry 1 = .ok (.getfield 60, 3) := by decide +kernel
theorem d_Mo_dropEntry_4 : decode b_Mo_dropEntry 4 = .ok (.iload_n 1, 1) := by decide +kernel
theorem d_Mo_dropEntry_5 : decode b_Mo_dropEntry 5 = .ok (.dup2, 1) := by decide +kernel
theorem d_Mo_dropEntry_6 : decode b_Mo_dropEntry 6 = .ok (.iaload, 1) := by decide +kernel
theorem d_Mo_dropEntry_7 : decode b_Mo_dropEntry 7 = .ok (.iconst 1, 1) := by decide +kernel
theorem d_Mo_dropEntry_8 : decode b_Mo_dropEntry 8 = .ok (.isub, 1) := by decide +kernel
theorem d_Mo_dropEntry_9 : decode b_Mo_dropEntry 9 = .ok (.iastore, 1) := by decide +kernel
theorem d_Mo_dropEntry_10 : decode b_Mo_dropEntry 10 = .ok (.iload_n 2, 1) := by decide +kernel
theorem d_Mo_dropEntry_11 : decode b_Mo_dropEntry 11 = .ok (.istore_n 3, 1) := by decide +kernel
theorem d_Mo_dropEntry_12 : decode b_Mo_dropEntry 12 = .ok (.iload_n 3, 1) := by decide +kernel
theorem d_Mo_dropEntry_13 : decode b_Mo_dropEntry 13 = .ok (.bipush 8, 2) := by decide +kernel
theorem d_Mo_dropEntry_15 : decode b_Mo_dropEntry 15 = .ok (.iload_n 1, 1) := by decide +kernel
theorem d_Mo_dropEntry_16 : decode b_Mo_dropEntry 16 = .ok (.imul, 1) := by decide +kernel
theorem d_Mo_dropEntry_17 : decode b_Mo_dropEntry 17 = .ok (.aload_n 0, 1) := by decide +kernel
theorem d_Mo_dropEntry_18 : decode b_Mo_dropEntry 18 = .ok (.getfield 60, 3) := by decide +kernel
theorem d_Mo_dropEntry_21 : decode b_Mo_dropEntry 21 = .ok (.iload_n 1, 1) := by decide +kernel
theorem d_Mo_dropEntry_22 : decode b_Mo_dropEntry 22 = .ok (.iaload, 1) := by decide +kernel
theorem d_Mo_dropEntry_23 : decode b_Mo_dropEntry 23 = .ok (.iadd, 1) := by decide +kernel
theorem d_Mo_dropEntry_24 : decode b_Mo_dropEntry 24 = .ok (.if_icmp .ge 51, 3) := by decide +kernel
theorem d_Mo_dropEntry_27 : decode b_Mo_dropEntry 27 = .ok (.aload_n 0, 1) := by decide +kernel
theorem d_Mo_dropEntry_28 : decode b_Mo_dropEntry 28 = .ok (.getfield 63, 3) := by decide +kernel
theorem d_Mo_dropEntry_31 : decode b_Mo_dropEntry 31 = .ok (.iload_n 3, 1) := by decide +kernel
theorem d_Mo_dropEntry_32 : decode b_Mo_dropEntry 32 = .ok (.aload_n 0, 1) := by decide +kernel
theorem d_Mo_dropEntry_33 : decode b_Mo_dropEntry 33 = .ok (.getfield 63, 3) := by decide +kernel
theorem d_Mo_dropEntry_36 : decode b_Mo_dropEntry 36 = .ok (.iload_n 3, 1) := by decide +kernel
theorem d_Mo_dropEntry_37 : decode b_Mo_dropEntry 37 = .ok (.iconst 1, 1) := by decide +kernel
theorem d_Mo_dropEntry_38 : decode b_Mo_dropEntry 38 = .ok (.iadd, 1) := by decide +kernel
theorem d_Mo_dropEntry_39 : decode b_Mo_dropEntry 39 = .ok (.iaload, 1) := by decide +kernel
theorem d_Mo_dropEntry_40 : decode b_Mo_dropEntry 40 = .ok (.iastore, 1) := by decide +kernel
theorem d_Mo_dropEntry_41 : decode b_Mo_dropEntry 41 = .ok (.aload_n 0, 1) := by decide +kernel
theorem d_Mo_dropEntry_42 : decode b_Mo_dropEntry 42 = .ok (.getfield 66, 3) := by decide +kernel
theorem d_Mo_dropEntry_45 : decode b_Mo_dropEntry 45 = .ok (.iload_n 3, 1) := by decide +kernel
theorem d_Mo_dropEntry_46 : decode b_Mo_dropEntry 46 = .ok (.aload_n 0, 1) := by decide +kernel
theorem d_Mo_dropEntry_47 : decode b_Mo_dropEntry 47 = .ok (.getfield 66, 3) := by decide +kernel
theorem d_Mo_dropEntry_50 : decode b_Mo_dropEntry 50 = .ok (.iload_n 3, 1) := by decide +kernel
theorem d_Mo_dropEntry_51 : decode b_Mo_dropEntry 51 = .ok (.iconst 1, 1) := by decide +kernel
theorem d_Mo_dropEntry_52 : decode b_Mo_dropEntry 52 = .ok (.iadd, 1) := by decide +kernel
theorem d_Mo_dropEntry_53 : decode b_Mo_dropEntry 53 = .ok (.iaload, 1) := by decide +kernel
theorem d_Mo_dropEntry_54 : decode b_Mo_dropEntry 54 = .ok (.iastore, 1) := by decide +kernel
theorem d_Mo_dropEntry_55 : decode b_Mo_dropEntry 55 = .ok (.aload_n 0, 1) := by decide +kernel
theorem d_Mo_dropEntry_56 : decode b_Mo_dropEntry 56 = .ok (.getfield 69, 3) := by decide +kernel
theorem d_Mo_dropEntry_59 : decode b_Mo_dropEntry 59 = .ok (.iload_n 3, 1) := by decide +kernel
theorem d_Mo_dropEntry_60 : decode b_Mo_dropEntry 60 = .ok (.aload_n 0, 1) := by decide +kernel
theorem d_Mo_dropEntry_61 : decode b_Mo_dropEntry 61 = .ok (.getfield 69, 3) := by decide +kernel
theorem d_Mo_dropEntry_64 : decode b_Mo_dropEntry 64 = .ok (.iload_n 3, 1) := by decide +kernel
theorem d_Mo_dropEntry_65 : decode b_Mo_dropEntry 65 = .ok (.iconst 1, 1) := by decide +kernel
theorem d_Mo_dropEntry_66 : decode b_Mo_dropEntry 66 = .ok (.iadd, 1) := by decide +kernel
theorem d_Mo_dropEntry_67 : decode b_Mo_dropEntry 67 = .ok (.iaload, 1) := by decide +kernel
theorem d_Mo_dropEntry_68 : decode b_Mo_dropEntry 68 = .ok (.iastore, 1) := by decide +kernel
theorem d_Mo_dropEntry_69 : decode b_Mo_dropEntry 69 = .ok (.iinc 3 1, 3) := by decide +kernel
theorem d_Mo_dropEntry_72 : decode b_Mo_dropEntry 72 = .ok (.goto (-60), 3) := by decide +kernel
theorem d_Mo_dropEntry_75 : decode b_Mo_dropEntry 75 = .ok (.return_, 1) := by decide +kernel
theorem d_Mo_router_0 : decode b_Mo_router 0 = .ok (.iload_n 1, 1) := by decide +kernel
theorem d_Mo_router_1 : decode b_Mo_router 1 = .ok (.iconst 1, 1) := by decide +kernel
theorem d_Mo_router_2 : decode b_Mo_router 2 = .ok (.if_icmp .lt 41, 3) := by decide +kernel
theorem d_Mo_router_5 : decode b_Mo_router 5 = .ok (.iload_n 1, 1) := by decide +kernel
theorem d_Mo_router_6 : decode b_Mo_router 6 = .ok (.sipush 254, 3) := by decide +kernel
theorem d_Mo_router_9 : decode b_Mo_router 9 = .ok (.if_icmp .gt 34, 3) := by decide +kernel
theorem d_Mo_router_12 : decode b_Mo_router 12 = .ok (.aload_n 0, 1) := by decide +kernel
theorem d_Mo_router_13 : decode b_Mo_router 13 = .ok (.iload_n 2, 1) := by decide +kernel
theorem d_Mo_router_14 : decode b_Mo_router 14 = .ok (.invokevirtual 167, 3) := by decide +kernel
theorem d_Mo_router_17 : decode b_Mo_router 17 = .ok (.ifCond .eq 26, 3) := by decide +kernel
theorem d_Mo_router_20 : decode b_Mo_router 20 = .ok (.iload_n 3, 1) := by decide +kernel
theorem d_Mo_router_21 : decode b_Mo_router 21 = .ok (.ifCond .lt 22, 3) := by decide +kernel
theorem d_Mo_router_24 : decode b_Mo_router 24 = .ok (.iload_n 3, 1) := by decide +kernel
theorem d_Mo_router_25 : decode b_Mo_router 25 = .ok (.sipush 1000, 3) := by decide +kernel
theorem d_Mo_router_28 : decode b_Mo_router 28 = .ok (.if_icmp .gt 15, 3) := by decide +kernel
theorem d_Mo_router_31 : decode b_Mo_router 31 = .ok (.iload 4, 2) := by decide +kernel
theorem d_Mo_router_33 : decode b_Mo_router 33 = .ok (.ifCond .lt 10, 3) := by decide +kernel
theorem d_Mo_router_36 : decode b_Mo_router 36 = .ok (.iload 4, 2) := by decide +kernel
theorem d_Mo_router_38 : decode b_Mo_router 38 = .ok (.bipush 99, 2) := by decide +kernel
theorem d_Mo_router_40 : decode b_Mo_router 40 = .ok (.if_icmp .le 7, 3) := by decide +kernel
theorem d_Mo_router_43 : decode b_Mo_router 43 = .ok (.iconst 1, 1) := by decide +kernel
theorem d_Mo_router_44 : decode b_Mo_router 44 = .ok (.goto 4, 3) := by decide +kernel
theorem d_Mo_router_47 : decode b_Mo_router 47 = .ok (.iconst 0, 1) := by decide +kernel
theorem d_Mo_router_48 : decode b_Mo_router 48 = .ok (.istore 5, 2) := by decide +kernel
theorem d_Mo_router_50 : decode b_Mo_router 50 = .ok (.aload_n 0, 1) := by decide +kernel
theorem d_Mo_router_51 : decode b_Mo_router 51 = .ok (.iload 5, 2) := by decide +kernel
theorem d_Mo_router_53 : decode b_Mo_router 53 = .ok (.ifCond .eq 7, 3) := by decide +kernel
theorem d_Mo_router_56 : decode b_Mo_router 56 = .ok (.iconst 1, 1) := by decide +kernel
theorem d_Mo_router_57 : decode b_Mo_router 57 = .ok (.goto 15, 3) := by decide +kernel
theorem d_Mo_router_60 : decode b_Mo_router 60 = .ok (.aload_n 0, 1) := by decide +kernel
theorem d_Mo_router_61 : decode b_Mo_router 61 = .ok (.getfield 107, 3) := by decide +kernel
theorem d_Mo_router_64 : decode b_Mo_router 64 = .ok (.ifCond .eq 7, 3) := by decide +kernel
theorem d_Mo_router_67 : decode b_Mo_router 67 = .ok (.iconst 2, 1) := by decide +kernel
theorem d_Mo_router_68 : decode b_Mo_router 68 = .ok (.goto 4, 3) := by decide +kernel
theorem d_Mo_router_71 : decode b_Mo_router 71 = .ok (.iconst 0, 1) := by decide +kernel
theorem d_Mo_router_72 : decode b_Mo_router 72 = .ok (.putfield 85, 3) := by decide +kernel
theorem d_Mo_router_75 : decode b_Mo_router 75 = .ok (.aload_n 0, 1) := by decide +kernel
theorem d_Mo_router_76 : decode b_Mo_router 76 = .ok (.getfield 85, 3) := by decide +kernel
theorem d_Mo_router_79 : decode b_Mo_router 79 = .ok (.ifCond .eq 4, 3) := by decide +kernel
theorem d_Mo_router_82 : decode b_Mo_router 82 = .ok (.return_, 1) := by decide +kernel
theorem d_Mo_router_83 : decode b_Mo_router 83 = .ok (.sipush 256, 3) := by decide +kernel
theorem d_Mo_router_86 : decode b_Mo_router 86 = .ok (.iload_n 1, 1) := by decide +kernel
theorem d_Mo_router_87 : decode b_Mo_router 87 = .ok (.iadd, 1) := by decide +kernel
theorem d_Mo_router_88 : decode b_Mo_router 88 = .ok (.istore 6, 2) := by decide +kernel
theorem d_Mo_router_90 : decode b_Mo_router 90 = .ok (.aload_n 0, 1) := by decide +kernel
theorem d_Mo_router_91 : decode b_Mo_router 91 = .ok (.iload 6, 2) := by decide +kernel
theorem d_Mo_router_93 : decode b_Mo_router 93 = .ok (.iload_n 2, 1) := by decide +kernel
theorem d_Mo_router_94 : decode b_Mo_router 94 = .ok (.invokevirtual 170, 3) := by decide +kernel
theorem d_Mo_router_97 : decode b_Mo_router 97 = .ok (.istore 7, 2) := by decide +kernel
theorem d_Mo_router_99 : decode b_Mo_router 99 = .ok (.aload_n 0, 1) := by decide +kernel
theorem d_Mo_router_100 : decode b_Mo_router 100 = .ok (.getfield 47, 3) := by decide +kernel
theorem d_Mo_router_103 : decode b_Mo_router 103 = .ok (.iload 7, 2) := by decide +kernel
theorem d_Mo_router_105 : decode b_Mo_router 105 = .ok (.iconst 1, 1) := by decide +kernel
theorem d_Mo_router_106 : decode b_Mo_router 106 = .ok (.bastore, 1) := by decide +kernel
theorem d_Mo_router_107 : decode b_Mo_router 107 = .ok (.iload_n 3, 1) := by decide +kernel
theorem d_Mo_router_108 : decode b_Mo_router 108 = .ok (.ifCond .ne 13, 3) := by decide +kernel
theorem d_Mo_router_111 : decode b_Mo_router 111 = .ok (.aload_n 0, 1) := by decide +kernel
theorem d_Mo_router_112 : decode b_Mo_router 112 = .ok (.iconst 0, 1) := by decide +kernel
theorem d_Mo_router_113 : decode b_Mo_router 113 = .ok (.iload 6, 2) := by decide +kernel
theorem d_Mo_router_115 : decode b_Mo_router 115 = .ok (.invokevirtual 173, 3) := by decide +kernel
theorem d_Mo_router_118 : decode b_Mo_router 118 = .ok (.goto 16, 3) := by decide +kernel
theorem d_Mo_router_121 : decode b_Mo_router 121 = .ok (.aload_n 0, 1) := by decide +kernel
theorem d_Mo_router_122 : decode b_Mo_router 122 = .ok (.iconst 0, 1) := by decide +kernel
theorem d_Mo_router_123 : decode b_Mo_router 123 = .ok (.iload 6, 2) := by decide +kernel
theorem d_Mo_router_125 : decode b_Mo_router 125 = .ok (.aload_n 0, 1) := by decide +kernel
theorem d_Mo_router_126 : decode b_Mo_router 126 = .ok (.iload_n 3, 1) := by decide +kernel
theorem d_Mo_router_127 : decode b_Mo_router 127 = .ok (.invokevirtual 99, 3) := by decide +kernel
theorem d_Mo_router_130 : decode b_Mo_router 130 = .ok (.iconst 0, 1) := by decide +kernel
theorem d_Mo_router_131 : decode b_Mo_router 131 = .ok (.invokevirtual 176, 3) := by decide +kernel
theorem d_Mo_router_134 : decode b_Mo_router 134 = .ok (.aload_n 0, 1) := by decide +kernel
theorem d_Mo_router_135 : decode b_Mo_router 135 = .ok (.iload 4, 2) := by decide +kernel
theorem d_Mo_router_137 : decode b_Mo_router 137 = .ok (.bipush 8, 2) := by decide +kernel
theorem d_Mo_router_139 : decode b_Mo_router 139 = .ok (.if_icmp .lt 15, 3) := by decide +kernel
theorem d_Mo_router_142 : decode b_Mo_router 142 = .ok (.iload 4, 2) := by decide +kernel
theorem d_Mo_router_144 : decode b_Mo_router 144 = .ok (.bipush 40, 2) := by decide +kernel
theorem d_Mo_router_146 : decode b_Mo_router 146 = .ok (.if_icmp .gt 8, 3) := by decide +kernel
theorem d_Mo_router_149 : decode b_Mo_router 149 = .ok (.iload 4, 2) := by decide +kernel
theorem d_Mo_router_151 : decode b_Mo_router 151 = .ok (.goto 7, 3) := by decide +kernel
theorem d_Mo_router_154 : decode b_Mo_router 154 = .ok (.aload_n 0, 1) := by decide +kernel
theorem d_Mo_router_155 : decode b_Mo_router 155 = .ok (.getfield 7, 3) := by decide +kernel
theorem d_Mo_router_158 : decode b_Mo_router 158 = .ok (.putfield 7, 3) := by decide +kernel
theorem d_Mo_router_161 : decode b_Mo_router 161 = .ok (.return_, 1) := by decide +kernel
theorem d_Mo_isNumber_0 : decode b_Mo_isNumber 0 = .ok (.iload_n 1, 1) := by decide +kernel
theorem d_Mo_isNumber_1 : decode b_Mo_isNumber 1 = .ok (.iconst 1, 1) := by decide +kernel
theorem d_Mo_isNumber_2 : decode b_Mo_isNumber 2 = .ok (.if_icmp .lt 13, 3) := by decide +kernel
theorem d_Mo_isNumber_5 : decode b_Mo_isNumber 5 = .ok (.iload_n 1, 1) := by decide +kernel
theorem d_Mo_isNumber_6 : decode b_Mo_isNumber 6 = .ok (.bipush 99, 2) := by decide +kernel
theorem d_Mo_isNumber_8 : decode b_Mo_isNumber 8 = .ok (.if_icmp .gt 7, 3) := by decide +kernel
theorem d_Mo_isNumber_11 : decode b_Mo_isNumber 11 = .ok (.iconst 1, 1) := by decide +kernel
theorem d_Mo_isNumber_12 : decode b_Mo_isNumber 12 = .ok (.goto 4, 3) := by decide +kernel
theorem d_Mo_isNumber_15 : decode b_Mo_isNumber 15 = .ok (.iconst 0, 1) := by decide +kernel
theorem d_Mo_isNumber_16 : decode b_Mo_isNumber 16 = .ok (.ireturn, 1) := by decide +kernel
theorem d_Mo_meet_0 : decode b_Mo_meet 0 = .ok (.aload_n 0, 1) := by decide +kernel
theorem d_Mo_meet_1 : decode b_Mo_meet 1 = .ok (.iload_n 1, 1) := by decide +kernel
theorem d_Mo_meet_2 : decode b_Mo_meet 2 = .ok (.invokevirtual 132, 3) := by decide +kernel
theorem d_Mo_meet_5 : decode b_Mo_meet 5 = .ok (.istore_n 3, 1) := by decide +kernel
theorem d_Mo_meet_6 : decode b_Mo_meet 6 = .ok (.iload_n 3, 1) := by decide +kernel
theorem d_Mo_meet_7 : decode b_Mo_meet 7 = .ok (.ifCond .ge 11, 3) := by decide +kernel
theorem d_Mo_meet_10 : decode b_Mo_meet 10 = .ok (.aload_n 0, 1) := by decide +kernel
theorem d_Mo_meet_11 : decode b_Mo_meet 11 = .ok (.iload_n 1, 1) := by decide +kernel
theorem d_Mo_meet_12 : decode b_Mo_meet 12 = .ok (.iconst 3, 1) := by decide +kernel
theorem d_Mo_meet_13 : decode b_Mo_meet 13 = .ok (.iload_n 2, 1) := by decide +kernel
theorem d_Mo_meet_14 : decode b_Mo_meet 14 = .ok (.invokevirtual 135, 3) := by decide +kernel
theorem d_Mo_meet_17 : decode b_Mo_meet 17 = .ok (.ireturn, 1) := by decide +kernel
theorem d_Mo_meet_18 : decode b_Mo_meet 18 = .ok (.aload_n 0, 1) := by decide +kernel
theorem d_Mo_meet_19 : decode b_Mo_meet 19 = .ok (.getfield 44, 3) := by decide +kernel
theorem d_Mo_meet_22 : decode b_Mo_meet 22 = .ok (.iload_n 3, 1) := by decide +kernel
theorem d_Mo_meet_23 : decode b_Mo_meet 23 = .ok (.iaload, 1) := by decide +kernel
theorem d_Mo_meet_24 : decode b_Mo_meet 24 = .ok (.iload_n 2, 1) := by decide +kernel
theorem d_Mo_meet_25 : decode b_Mo_meet 25 = .ok (.if_icmp .eq 21, 3) := by decide +kernel
theorem d_Mo_meet_28 : decode b_Mo_meet 28 = .ok (.aload_n 0, 1) := by decide +kernel
theorem d_Mo_meet_29 : decode b_Mo_meet 29 = .ok (.getfield 44, 3) := by decide +kernel
theorem d_Mo_meet_32 : decode b_Mo_meet 32 = .ok (.iload_n 3, 1) := by decide +kernel
theorem d_Mo_meet_33 : decode b_Mo_meet 33 = .ok (.iload_n 2, 1) := by decide +kernel
theorem d_Mo_meet_34 : decode b_Mo_meet 34 = .ok (.iastore, 1) := by decide +kernel
theorem d_Mo_meet_35 : decode b_Mo_meet 35 = .ok (.aload_n 0, 1) := by decide +kernel
theorem d_Mo_meet_36 : decode b_Mo_meet 36 = .ok (.iload_n 3, 1) := by decide +kernel
theorem d_Mo_meet_37 : decode b_Mo_meet 37 = .ok (.iconst 3, 1) := by decide +kernel
theorem d_Mo_meet_38 : decode b_Mo_meet 38 = .ok (.invokevirtual 125, 3) := by decide +kernel
theorem d_Mo_meet_41 : decode b_Mo_meet 41 = .ok (.aload_n 0, 1) := by decide +kernel
theorem d_Mo_meet_42 : decode b_Mo_meet 42 = .ok (.iload_n 3, 1) := by decide +kernel
theorem d_Mo_meet_43 : decode b_Mo_meet 43 = .ok (.invokevirtual 139, 3) := by decide +kernel
theorem d_Mo_meet_46 : decode b_Mo_meet 46 = .ok (.iload_n 3, 1) := by decide +kernel
theorem d_Mo_meet_47 : decode b_Mo_meet 47 = .ok (.ireturn, 1) := by decide +kernel
theorem d_Mo_neighbourAt_0 : decode b_Mo_neighbourAt 0 = .ok (.iconst 0, 1) := by decide +kernel
theorem d_Mo_neighbourAt_1 : decode b_Mo_neighbourAt 1 = .ok (.istore_n 2, 1) := by decide +kernel
theorem d_Mo_neighbourAt_2 : decode b_Mo_neighbourAt 2 = .ok (.iload_n 2, 1) := by decide +kernel
theorem d_Mo_neighbourAt_3 : decode b_Mo_neighbourAt 3 = .ok (.aload_n 0, 1) := by decide +kernel
theorem d_Mo_neighbourAt_4 : decode b_Mo_neighbourAt 4 = .ok (.getfield 119, 3) := by decide +kernel
theorem d_Mo_neighbourAt_7 : decode b_Mo_neighbourAt 7 = .ok (.if_icmp .ge 21, 3) := by decide +kernel
theorem d_Mo_neighbourAt_10 : decode b_Mo_neighbourAt 10 = .ok (.aload_n 0, 1) := by decide +kernel
theorem d_Mo_neighbourAt_11 : decode b_Mo_neighbourAt 11 = .ok (.getfield 41, 3) := by decide +kernel
theorem d_Mo_neighbourAt_14 : decode b_Mo_neighbourAt 14 = .ok (.iload_n 2, 1) := by decide +kernel
theorem d_Mo_neighbourAt_15 : decode b_Mo_neighbourAt 15 = .ok (.iaload, 1) := by decide +kernel
theorem d_Mo_neighbourAt_16 : decode b_Mo_neighbourAt 16 = .ok (.iload_n 1, 1) := by decide +kernel
theorem d_Mo_neighbourAt_17 : decode b_Mo_neighbourAt 17 = .ok (.if_icmp .ne 5, 3) := by decide +kernel
theorem d_Mo_neighbourAt_20 : decode b_Mo_neighbourAt 20 = .ok (.iload_n 2, 1) := by decide +kernel
theorem d_Mo_neighbourAt_21 : decode b_Mo_neighbourAt 21 = .ok (.ireturn, 1) := by decide +kernel
theorem d_Mo_neighbourAt_22 : decode b_Mo_neighbourAt 22 = .ok (.iinc 2 1, 3) := by decide +kernel
theorem d_Mo_neighbourAt_25 : decode b_Mo_neighbourAt 25 = .ok (.goto (-23), 3) := by decide +kernel
theorem d_Mo_neighbourAt_28 : decode b_Mo_neighbourAt 28 = .ok (.iconst (-1), 1) := by decide +kernel
theorem d_Mo_neighbourAt_29 : decode b_Mo_neighbourAt 29 = .ok (.ireturn, 1) := by decide +kernel
theorem d_Mo_makeNeighbour_0 : decode b_Mo_makeNeighbour 0 = .ok (.aload_n 0, 1) := by decide +kernel
theorem d_Mo_makeNeighbour_1 : decode b_Mo_makeNeighbour 1 = .ok (.getfield 119, 3) := by decide +kernel
theorem d_Mo_makeNeighbour_4 : decode b_Mo_makeNeighbour 4 = .ok (.bipush 6, 2) := by decide +kernel
theorem d_Mo_makeNeighbour_6 : decode b_Mo_makeNeighbour 6 = .ok (.if_icmp .ne 8, 3) := by decide +kernel
theorem d_Mo_makeNeighbour_9 : decode b_Mo_makeNeighbour 9 = .ok (.aload_n 0, 1) := by decide +kernel
theorem d_Mo_makeNeighbour_10 : decode b_Mo_makeNeighbour 10 = .ok (.iconst 0, 1) := by decide +kernel
theorem d_Mo_makeNeighbour_11 : decode b_Mo_makeNeighbour 11 = .ok (.invokevirtual 122, 3) := by decide +kernel
theorem d_Mo_makeNeighbour_14 : decode b_Mo_makeNeighbour 14 = .ok (.aload_n 0, 1) := by decide +kernel
theorem d_Mo_makeNeighbour_15 : decode b_Mo_makeNeighbour 15 = .ok (.getfield 119, 3) := by decide +kernel
theorem d_Mo_makeNeighbour_18 : decode b_Mo_makeNeighbour 18 = .ok (.istore 4, 2) := by decide +kernel
theorem d_Mo_makeNeighbour_20 : decode b_Mo_makeNeighbour 20 = .ok (.aload_n 0, 1) := by decide +kernel
theorem d_Mo_makeNeighbour_21 : decode b_Mo_makeNeighbour 21 = .ok (.getfield 41, 3) := by decide +kernel
theorem d_Mo_makeNeighbour_24 : decode b_Mo_makeNeighbour 24 = .ok (.iload 4, 2) := by decide +kernel
theorem d_Mo_makeNeighbour_26 : decode b_Mo_makeNeighbour 26 = .ok (.iload_n 1, 1) := by decide +kernel
theorem d_Mo_makeNeighbour_27 : decode b_Mo_makeNeighbour 27 = .ok (.iastore, 1) := by decide +kernel
theorem d_Mo_makeNeighbour_28 : decode b_Mo_makeNeighbour 28 = .ok (.aload_n 0, 1) := by decide +kernel
theorem d_Mo_makeNeighbour_29 : decode b_Mo_makeNeighbour 29 = .ok (.getfield 44, 3) := by decide +kernel
theorem d_Mo_makeNeighbour_32 : decode b_Mo_makeNeighbour 32 = .ok (.iload 4, 2) := by decide +kernel
theorem d_Mo_makeNeighbour_34 : decode b_Mo_makeNeighbour 34 = .ok (.iload_n 3, 1) := by decide +kernel
theorem d_Mo_makeNeighbour_35 : decode b_Mo_makeNeighbour 35 = .ok (.iastore, 1) := by decide +kernel
theorem d_Mo_makeNeighbour_36 : decode b_Mo_makeNeighbour 36 = .ok (.aload_n 0, 1) := by decide +kernel
theorem d_Mo_makeNeighbour_37 : decode b_Mo_makeNeighbour 37 = .ok (.getfield 47, 3) := by decide +kernel
theorem d_Mo_makeNeighbour_40 : decode b_Mo_makeNeighbour 40 = .ok (.iload 4, 2) := by decide +kernel
theorem d_Mo_makeNeighbour_42 : decode b_Mo_makeNeighbour 42 = .ok (.iconst 0, 1) := by decide +kernel
theorem d_Mo_makeNeighbour_43 : decode b_Mo_makeNeighbour 43 = .ok (.bastore, 1) := by decide +kernel
theorem d_Mo_makeNeighbour_44 : decode b_Mo_makeNeighbour 44 = .ok (.aload_n 0, 1) := by decide +kernel
theorem d_Mo_makeNeighbour_45 : decode b_Mo_makeNeighbour 45 = .ok (.getfield 57, 3) := by decide +kernel
theorem d_Mo_makeNeighbour_48 : decode b_Mo_makeNeighbour 48 = .ok (.iload 4, 2) := by decide +kernel
theorem d_Mo_makeNeighbour_50 : decode b_Mo_makeNeighbour 50 = .ok (.iconst 0, 1) := by decide +kernel
theorem d_Mo_makeNeighbour_51 : decode b_Mo_makeNeighbour 51 = .ok (.iastore, 1) := by decide +kernel
theorem d_Mo_makeNeighbour_52 : decode b_Mo_makeNeighbour 52 = .ok (.aload_n 0, 1) := by decide +kernel
theorem d_Mo_makeNeighbour_53 : decode b_Mo_makeNeighbour 53 = .ok (.dup, 1) := by decide +kernel
theorem d_Mo_makeNeighbour_54 : decode b_Mo_makeNeighbour 54 = .ok (.getfield 119, 3) := by decide +kernel
theorem d_Mo_makeNeighbour_57 : decode b_Mo_makeNeighbour 57 = .ok (.iconst 1, 1) := by decide +kernel
theorem d_Mo_makeNeighbour_58 : decode b_Mo_makeNeighbour 58 = .ok (.iadd, 1) := by decide +kernel
theorem d_Mo_makeNeighbour_59 : decode b_Mo_makeNeighbour 59 = .ok (.putfield 119, 3) := by decide +kernel
theorem d_Mo_makeNeighbour_62 : decode b_Mo_makeNeighbour 62 = .ok (.aload_n 0, 1) := by decide +kernel
theorem d_Mo_makeNeighbour_63 : decode b_Mo_makeNeighbour 63 = .ok (.iload 4, 2) := by decide +kernel
theorem d_Mo_makeNeighbour_65 : decode b_Mo_makeNeighbour 65 = .ok (.iload_n 2, 1) := by decide +kernel
theorem d_Mo_makeNeighbour_66 : decode b_Mo_makeNeighbour 66 = .ok (.invokevirtual 125, 3) := by decide +kernel
theorem d_Mo_makeNeighbour_69 : decode b_Mo_makeNeighbour 69 = .ok (.iload 4, 2) := by decide +kernel
theorem d_Mo_makeNeighbour_71 : decode b_Mo_makeNeighbour 71 = .ok (.ireturn, 1) := by decide +kernel
theorem d_Mo_release_0 : decode b_Mo_release 0 = .ok (.aload_n 0, 1) := by decide +kernel
theorem d_Mo_release_1 : decode b_Mo_release 1 = .ok (.getfield 57, 3) := by decide +kernel
theorem d_Mo_release_4 : decode b_Mo_release 4 = .ok (.iload_n 1, 1) := by decide +kernel
theorem d_Mo_release_5 : decode b_Mo_release 5 = .ok (.iaload, 1) := by decide +kernel
theorem d_Mo_release_6 : decode b_Mo_release 6 = .ok (.ifCond .le 23, 3) := by decide +kernel
theorem d_Mo_release_9 : decode b_Mo_release 9 = .ok (.aload_n 0, 1) := by decide +kernel
theorem d_Mo_release_10 : decode b_Mo_release 10 = .ok (.getfield 57, 3) := by decide +kernel
theorem d_Mo_release_13 : decode b_Mo_release 13 = .ok (.iload_n 1, 1) := by decide +kernel
theorem d_Mo_release_14 : decode b_Mo_release 14 = .ok (.iaload, 1) := by decide +kernel
theorem d_Mo_release_15 : decode b_Mo_release 15 = .ok (.istore_n 2, 1) := by decide +kernel
theorem d_Mo_release_16 : decode b_Mo_release 16 = .ok (.aload_n 0, 1) := by decide +kernel
theorem d_Mo_release_17 : decode b_Mo_release 17 = .ok (.getfield 57, 3) := by decide +kernel
theorem d_Mo_release_20 : decode b_Mo_release 20 = .ok (.iload_n 1, 1) := by decide +kernel
theorem d_Mo_release_21 : decode b_Mo_release 21 = .ok (.iconst 0, 1) := by decide +kernel
theorem d_Mo_release_22 : decode b_Mo_release 22 = .ok (.iastore, 1) := by decide +kernel
theorem d_Mo_release_23 : decode b_Mo_release 23 = .ok (.aload_n 0, 1) := by decide +kernel
theorem d_Mo_release_24 : decode b_Mo_release 24 = .ok (.iload_n 1, 1) := by decide +kernel
theorem d_Mo_release_25 : decode b_Mo_release 25 = .ok (.iload_n 2, 1) := by decide +kernel
theorem d_Mo_release_26 : decode b_Mo_release 26 = .ok (.invokevirtual 129, 3) := by decide +kernel
theorem d_Mo_release_29 : decode b_Mo_release 29 = .ok (.return_, 1) := by decide +kernel
theorem d_Mo_sendTo_0 : decode b_Mo_sendTo 0 = .ok (.aload_n 0, 1) := by decide +kernel
theorem d_Mo_sendTo_1 : decode b_Mo_sendTo 1 = .ok (.iconst 4, 1) := by decide +kernel
theorem d_Mo_sendTo_2 : decode b_Mo_sendTo 2 = .ok (.aload_n 0, 1) := by decide +kernel
theorem d_Mo_sendTo_3 : decode b_Mo_sendTo 3 = .ok (.getfield 41, 3) := by decide +kernel
theorem d_Mo_sendTo_6 : decode b_Mo_sendTo 6 = .ok (.iload_n 1, 1) := by decide +kernel
theorem d_Mo_sendTo_7 : decode b_Mo_sendTo 7 = .ok (.iaload, 1) := by decide +kernel
theorem d_Mo_sendTo_8 : decode b_Mo_sendTo 8 = .ok (.iload_n 2, 1) := by decide +kernel
theorem d_Mo_sendTo_9 : decode b_Mo_sendTo 9 = .ok (.invokevirtual 104, 3) := by decide +kernel
theorem d_Mo_sendTo_12 : decode b_Mo_sendTo 12 = .ok (.aload_n 0, 1) := by decide +kernel
theorem d_Mo_sendTo_13 : decode b_Mo_sendTo 13 = .ok (.getfield 51, 3) := by decide +kernel
theorem d_Mo_sendTo_16 : decode b_Mo_sendTo 16 = .ok (.iload_n 1, 1) := by decide +kernel
theorem d_Mo_sendTo_17 : decode b_Mo_sendTo 17 = .ok (.iaload, 1) := by decide +kernel
theorem d_Mo_sendTo_18 : decode b_Mo_sendTo 18 = .ok (.iconst 3, 1) := by decide +kernel
theorem d_Mo_sendTo_19 : decode b_Mo_sendTo 19 = .ok (.if_icmp .ne 9, 3) := by decide +kernel
theorem d_Mo_sendTo_22 : decode b_Mo_sendTo 22 = .ok (.aload_n 0, 1) := by decide +kernel
theorem d_Mo_sendTo_23 : decode b_Mo_sendTo 23 = .ok (.iload_n 1, 1) := by decide +kernel
theorem d_Mo_sendTo_24 : decode b_Mo_sendTo 24 = .ok (.iconst 4, 1) := by decide +kernel
theorem d_Mo_sendTo_25 : decode b_Mo_sendTo 25 = .ok (.invokevirtual 125, 3) := by decide +kernel
theorem d_Mo_sendTo_28 : decode b_Mo_sendTo 28 = .ok (.return_, 1) := by decide +kernel
theorem d_Mo_leave_0 : decode b_Mo_leave 0 = .ok (.aload_n 0, 1) := by decide +kernel
theorem d_Mo_leave_1 : decode b_Mo_leave 1 = .ok (.iload_n 1, 1) := by decide +kernel
theorem d_Mo_leave_2 : decode b_Mo_leave 2 = .ok (.iload_n 2, 1) := by decide +kernel
theorem d_Mo_leave_3 : decode b_Mo_leave 3 = .ok (.invokevirtual 151, 3) := by decide +kernel
theorem d_Mo_leave_6 : decode b_Mo_leave 6 = .ok (.istore_n 3, 1) := by decide +kernel
theorem d_Mo_leave_7 : decode b_Mo_leave 7 = .ok (.iload_n 3, 1) := by decide +kernel
theorem d_Mo_leave_8 : decode b_Mo_leave 8 = .ok (.ifCond .lt 9, 3) := by decide +kernel
theorem d_Mo_leave_11 : decode b_Mo_leave 11 = .ok (.aload_n 0, 1) := by decide +kernel
theorem d_Mo_leave_12 : decode b_Mo_leave 12 = .ok (.iload_n 1, 1) := by decide +kernel
theorem d_Mo_leave_13 : decode b_Mo_leave 13 = .ok (.iload_n 3, 1) := by decide +kernel
theorem d_Mo_leave_14 : decode b_Mo_leave 14 = .ok (.invokevirtual 155, 3) := by decide +kernel
theorem d_Mo_leave_17 : decode b_Mo_leave 17 = .ok (.return_, 1) := by decide +kernel
theorem d_Mo_entryAt_0 : decode b_Mo_entryAt 0 = .ok (.bipush 8, 2) := by decide +kernel
theorem d_Mo_entryAt_2 : decode b_Mo_entryAt 2 = .ok (.iload_n 1, 1) := by decide +kernel
theorem d_Mo_entryAt_3 : decode b_Mo_entryAt 3 = .ok (.imul, 1) := by decide +kernel
theorem d_Mo_entryAt_4 : decode b_Mo_entryAt 4 = .ok (.istore_n 3, 1) := by decide +kernel
theorem d_Mo_entryAt_5 : decode b_Mo_entryAt 5 = .ok (.iload_n 3, 1) := by decide +kernel
theorem d_Mo_entryAt_6 : decode b_Mo_entryAt 6 = .ok (.bipush 8, 2) := by decide +kernel
theorem d_Mo_entryAt_8 : decode b_Mo_entryAt 8 = .ok (.iload_n 1, 1) := by decide +kernel
theorem d_Mo_entryAt_9 : decode b_Mo_entryAt 9 = .ok (.imul, 1) := by decide +kernel
theorem d_Mo_entryAt_10 : decode b_Mo_entryAt 10 = .ok (.aload_n 0, 1) := by decide +kernel
theorem d_Mo_entryAt_11 : decode b_Mo_entryAt 11 = .ok (.getfield 60, 3) := by decide +kernel
theorem d_Mo_entryAt_14 : decode b_Mo_entryAt 14 = .ok (.iload_n 1, 1) := by decide +kernel
theorem d_Mo_entryAt_15 : decode b_Mo_entryAt 15 = .ok (.iaload, 1) := by decide +kernel
theorem d_Mo_entryAt_16 : decode b_Mo_entryAt 16 = .ok (.iadd, 1) := by decide +kernel
theorem d_Mo_entryAt_17 : decode b_Mo_entryAt 17 = .ok (.if_icmp .ge 21, 3) := by decide +kernel
theorem d_Mo_entryAt_20 : decode b_Mo_entryAt 20 = .ok (.aload_n 0, 1) := by decide +kernel
theorem d_Mo_entryAt_21 : decode b_Mo_entryAt 21 = .ok (.getfield 63, 3) := by decide +kernel
theorem d_Mo_entryAt_24 : decode b_Mo_entryAt 24 = .ok (.iload_n 3, 1) := by decide +kernel
theorem d_Mo_entryAt_25 : decode b_Mo_entryAt 25 = .ok (.iaload, 1) := by decide +kernel
theorem d_Mo_entryAt_26 : decode b_Mo_entryAt 26 = .ok (.iload_n 2, 1) := by decide +kernel
theorem d_Mo_entryAt_27 : decode b_Mo_entryAt 27 = .ok (.if_icmp .ne 5, 3) := by decide +kernel
theorem d_Mo_entryAt_30 : decode b_Mo_entryAt 30 = .ok (.iload_n 3, 1) := by decide +kernel
theorem d_Mo_entryAt_31 : decode b_Mo_entryAt 31 = .ok (.ireturn, 1) := by decide +kernel
theorem d_Mo_entryAt_32 : decode b_Mo_entryAt 32 = .ok (.iinc 3 1, 3) := by decide +kernel
theorem d_Mo_entryAt_35 : decode b_Mo_entryAt 35 = .ok (.goto (-30), 3) := by decide +kernel
theorem d_Mo_entryAt_38 : decode b_Mo_entryAt 38 = .ok (.iconst (-1), 1) := by decide +kernel
theorem d_Mo_entryAt_39 : decode b_Mo_entryAt 39 = .ok (.ireturn, 1) := by decide +kernel
theorem d_Mo_enter_0 : decode b_Mo_enter 0 = .ok (.aload_n 0, 1) := by decide +kernel
theorem d_Mo_enter_1 : decode b_Mo_enter 1 = .ok (.iload_n 1, 1) := by decide +kernel
theorem d_Mo_enter_2 : decode b_Mo_enter 2 = .ok (.iload_n 2, 1) := by decide +kernel
theorem d_Mo_enter_3 : decode b_Mo_enter 3 = .ok (.invokevirtual 151, 3) := by decide +kernel
theorem d_Mo_enter_6 : decode b_Mo_enter 6 = .ok (.istore 5, 2) := by decide +kernel
theorem d_Mo_enter_8 : decode b_Mo_enter 8 = .ok (.iload 5, 2) := by decide +kernel
theorem d_Mo_enter_10 : decode b_Mo_enter 10 = .ok (.ifCond .ge 53, 3) := by decide +kernel
theorem d_Mo_enter_13 : decode b_Mo_enter 13 = .ok (.aload_n 0, 1) := by decide +kernel
theorem d_Mo_enter_14 : decode b_Mo_enter 14 = .ok (.getfield 60, 3) := by decide +kernel
theorem d_Mo_enter_17 : decode b_Mo_enter 17 = .ok (.iload_n 1, 1) := by decide +kernel
theorem d_Mo_enter_18 : decode b_Mo_enter 18 = .ok (.iaload, 1) := by decide +kernel
theorem d_Mo_enter_19 : decode b_Mo_enter 19 = .ok (.iload_n 1, 1) := by decide +kernel
theorem d_Mo_enter_20 : decode b_Mo_enter 20 = .ok (.ifCond .ne 7, 3) := by decide +kernel
theorem d_Mo_enter_23 : decode b_Mo_enter 23 = .ok (.iconst 3, 1) := by decide +kernel
theorem d_Mo_enter_24 : decode b_Mo_enter 24 = .ok (.goto 4, 3) := by decide +kernel
theorem d_Mo_enter_27 : decode b_Mo_enter 27 = .ok (.iconst 4, 1) := by decide +kernel
theorem d_Mo_enter_28 : decode b_Mo_enter 28 = .ok (.if_icmp .ne 12, 3) := by decide +kernel
theorem d_Mo_enter_31 : decode b_Mo_enter 31 = .ok (.aload_n 0, 1) := by decide +kernel
theorem d_Mo_enter_32 : decode b_Mo_enter 32 = .ok (.iload_n 1, 1) := by decide +kernel
theorem d_Mo_enter_33 : decode b_Mo_enter 33 = .ok (.bipush 8, 2) := by decide +kernel
theorem d_Mo_enter_35 : decode b_Mo_enter 35 = .ok (.iload_n 1, 1) := by decide +kernel
theorem d_Mo_enter_36 : decode b_Mo_enter 36 = .ok (.imul, 1) := by decide +kernel
theorem d_Mo_enter_37 : decode b_Mo_enter 37 = .ok (.invokevirtual 155, 3) := by decide +kernel
theorem d_Mo_enter_40 : decode b_Mo_enter 40 = .ok (.bipush 8, 2) := by decide +kernel
theorem d_Mo_enter_42 : decode b_Mo_enter 42 = .ok (.iload_n 1, 1) := by decide +kernel
theorem d_Mo_enter_43 : decode b_Mo_enter 43 = .ok (.imul, 1) := by decide +kernel
theorem d_Mo_enter_44 : decode b_Mo_enter 44 = .ok (.aload_n 0, 1) := by decide +kernel
theorem d_Mo_enter_45 : decode b_Mo_enter 45 = .ok (.getfield 60, 3) := by decide +kernel
theorem d_Mo_enter_48 : decode b_Mo_enter 48 = .ok (.iload_n 1, 1) := by decide +kernel
theorem d_Mo_enter_49 : decode b_Mo_enter 49 = .ok (.iaload, 1) := by decide +kernel
theorem d_Mo_enter_50 : decode b_Mo_enter 50 = .ok (.iadd, 1) := by decide +kernel
theorem d_Mo_enter_51 : decode b_Mo_enter 51 = .ok (.istore 5, 2) := by decide +kernel
theorem d_Mo_enter_53 : decode b_Mo_enter 53 = .ok (.aload_n 0, 1) := by decide +kernel
theorem d_Mo_enter_54 : decode b_Mo_enter 54 = .ok (.getfield 60, 3) := by decide +kernel
theorem d_Mo_enter_57 : decode b_Mo_enter 57 = .ok (.iload_n 1, 1) := by decide +kernel
theorem d_Mo_enter_58 : decode b_Mo_enter 58 = .ok (.dup2, 1) := by decide +kernel
theorem d_Mo_enter_59 : decode b_Mo_enter 59 = .ok (.iaload, 1) := by decide +kernel
theorem d_Mo_enter_60 : decode b_Mo_enter 60 = .ok (.iconst 1, 1) := by decide +kernel
theorem d_Mo_enter_61 : decode b_Mo_enter 61 = .ok (.iadd, 1) := by decide +kernel
theorem d_Mo_enter_62 : decode b_Mo_enter 62 = .ok (.iastore, 1) := by decide +kernel
theorem d_Mo_enter_63 : decode b_Mo_enter 63 = .ok (.aload_n 0, 1) := by decide +kernel
theorem d_Mo_enter_64 : decode b_Mo_enter 64 = .ok (.getfield 63, 3) := by decide +kernel
theorem d_Mo_enter_67 : decode b_Mo_enter 67 = .ok (.iload 5, 2) := by decide +kernel
theorem d_Mo_enter_69 : decode b_Mo_enter 69 = .ok (.iload_n 2, 1) := by decide +kernel
theorem d_Mo_enter_70 : decode b_Mo_enter 70 = .ok (.iastore, 1) := by decide +kernel
theorem d_Mo_enter_71 : decode b_Mo_enter 71 = .ok (.aload_n 0, 1) := by decide +kernel
theorem d_Mo_enter_72 : decode b_Mo_enter 72 = .ok (.getfield 66, 3) := by decide +kernel
theorem d_Mo_enter_75 : decode b_Mo_enter 75 = .ok (.iload 5, 2) := by decide +kernel
theorem d_Mo_enter_77 : decode b_Mo_enter 77 = .ok (.iload_n 3, 1) := by decide +kernel
theorem d_Mo_enter_78 : decode b_Mo_enter 78 = .ok (.iastore, 1) := by decide +kernel
theorem d_Mo_enter_79 : decode b_Mo_enter 79 = .ok (.aload_n 0, 1) := by decide +kernel
theorem d_Mo_enter_80 : decode b_Mo_enter 80 = .ok (.getfield 69, 3) := by decide +kernel
theorem d_Mo_enter_83 : decode b_Mo_enter 83 = .ok (.iload 5, 2) := by decide +kernel
theorem d_Mo_enter_85 : decode b_Mo_enter 85 = .ok (.iload 4, 2) := by decide +kernel
theorem d_Mo_enter_87 : decode b_Mo_enter 87 = .ok (.iastore, 1) := by decide +kernel
theorem d_Mo_enter_88 : decode b_Mo_enter 88 = .ok (.return_, 1) := by decide +kernel
theorem d_Mo_prefix_0 : decode b_Mo_prefix 0 = .ok (.iload_n 1, 1) := by decide +kernel
theorem d_Mo_prefix_1 : decode b_Mo_prefix 1 = .ok (.iconst 1, 1) := by decide +kernel
theorem d_Mo_prefix_2 : decode b_Mo_prefix 2 = .ok (.if_icmp .lt 43, 3) := by decide +kernel
theorem d_Mo_prefix_5 : decode b_Mo_prefix 5 = .ok (.iload_n 1, 1) := by decide +kernel
theorem d_Mo_prefix_6 : decode b_Mo_prefix 6 = .ok (.sipush 250, 3) := by decide +kernel
theorem d_Mo_prefix_9 : decode b_Mo_prefix 9 = .ok (.if_icmp .gt 36, 3) := by decide +kernel
theorem d_Mo_prefix_12 : decode b_Mo_prefix 12 = .ok (.iload_n 2, 1) := by decide +kernel
theorem d_Mo_prefix_13 : decode b_Mo_prefix 13 = .ok (.ifCond .lt 32, 3) := by decide +kernel
theorem d_Mo_prefix_16 : decode b_Mo_prefix 16 = .ok (.iload_n 2, 1) := by decide +kernel
theorem d_Mo_prefix_17 : decode b_Mo_prefix 17 = .ok (.iconst 3, 1) := by decide +kernel
theorem d_Mo_prefix_18 : decode b_Mo_prefix 18 = .ok (.if_icmp .gt 27, 3) := by decide +kernel
theorem d_Mo_prefix_21 : decode b_Mo_prefix 21 = .ok (.iload_n 3, 1) := by decide +kernel
theorem d_Mo_prefix_22 : decode b_Mo_prefix 22 = .ok (.ifCond .lt 23, 3) := by decide +kernel
theorem d_Mo_prefix_25 : decode b_Mo_prefix 25 = .ok (.iload_n 3, 1) := by decide +kernel
theorem d_Mo_prefix_26 : decode b_Mo_prefix 26 = .ok (.sipush 1000, 3) := by decide +kernel
theorem d_Mo_prefix_29 : decode b_Mo_prefix 29 = .ok (.if_icmp .gt 16, 3) := by decide +kernel
theorem d_Mo_prefix_32 : decode b_Mo_prefix 32 = .ok (.iload 4, 2) := by decide +kernel
theorem d_Mo_prefix_34 : decode b_Mo_prefix 34 = .ok (.ifCond .lt 11, 3) := by decide +kernel
theorem d_Mo_prefix_37 : decode b_Mo_prefix 37 = .ok (.iload 4, 2) := by decide +kernel
theorem d_Mo_prefix_39 : decode b_Mo_prefix 39 = .ok (.sipush 1000, 3) := by decide +kernel
theorem d_Mo_prefix_42 : decode b_Mo_prefix 42 = .ok (.if_icmp .le 7, 3) := by decide +kernel
theorem d_Mo_prefix_45 : decode b_Mo_prefix 45 = .ok (.iconst 1, 1) := by decide +kernel
theorem d_Mo_prefix_46 : decode b_Mo_prefix 46 = .ok (.goto 4, 3) := by decide +kernel
theorem d_Mo_prefix_49 : decode b_Mo_prefix 49 = .ok (.iconst 0, 1) := by decide +kernel
theorem d_Mo_prefix_50 : decode b_Mo_prefix 50 = .ok (.istore 5, 2) := by decide +kernel
theorem d_Mo_prefix_52 : decode b_Mo_prefix 52 = .ok (.aload_n 0, 1) := by decide +kernel
theorem d_Mo_prefix_53 : decode b_Mo_prefix 53 = .ok (.iload 5, 2) := by decide +kernel
theorem d_Mo_prefix_55 : decode b_Mo_prefix 55 = .ok (.ifCond .eq 7, 3) := by decide +kernel
theorem d_Mo_prefix_58 : decode b_Mo_prefix 58 = .ok (.iconst 1, 1) := by decide +kernel
theorem d_Mo_prefix_59 : decode b_Mo_prefix 59 = .ok (.goto 15, 3) := by decide +kernel
theorem d_Mo_prefix_62 : decode b_Mo_prefix 62 = .ok (.aload_n 0, 1) := by decide +kernel
theorem d_Mo_prefix_63 : decode b_Mo_prefix 63 = .ok (.getfield 107, 3) := by decide +kernel
theorem d_Mo_prefix_66 : decode b_Mo_prefix 66 = .ok (.ifCond .eq 7, 3) := by decide +kernel
theorem d_Mo_prefix_69 : decode b_Mo_prefix 69 = .ok (.iconst 2, 1) := by decide +kernel
theorem d_Mo_prefix_70 : decode b_Mo_prefix 70 = .ok (.goto 4, 3) := by decide +kernel
theorem d_Mo_prefix_73 : decode b_Mo_prefix 73 = .ok (.iconst 0, 1) := by decide +kernel
theorem d_Mo_prefix_74 : decode b_Mo_prefix 74 = .ok (.putfield 85, 3) := by decide +kernel
theorem d_Mo_prefix_77 : decode b_Mo_prefix 77 = .ok (.aload_n 0, 1) := by decide +kernel
theorem d_Mo_prefix_78 : decode b_Mo_prefix 78 = .ok (.getfield 85, 3) := by decide +kernel
theorem d_Mo_prefix_81 : decode b_Mo_prefix 81 = .ok (.ifCond .ne 8, 3) := by decide +kernel
theorem d_Mo_prefix_84 : decode b_Mo_prefix 84 = .ok (.iload_n 1, 1) := by decide +kernel
theorem d_Mo_prefix_85 : decode b_Mo_prefix 85 = .ok (.iconst 1, 1) := by decide +kernel
theorem d_Mo_prefix_86 : decode b_Mo_prefix 86 = .ok (.if_icmp .ne 4, 3) := by decide +kernel
theorem d_Mo_prefix_89 : decode b_Mo_prefix 89 = .ok (.return_, 1) := by decide +kernel
theorem d_Mo_prefix_90 : decode b_Mo_prefix 90 = .ok (.iload_n 2, 1) := by decide +kernel
theorem d_Mo_prefix_91 : decode b_Mo_prefix 91 = .ok (.iconst 1, 1) := by decide +kernel
theorem d_Mo_prefix_92 : decode b_Mo_prefix 92 = .ok (.iand, 1) := by decide +kernel
theorem d_Mo_prefix_93 : decode b_Mo_prefix 93 = .ok (.iconst 1, 1) := by decide +kernel
theorem d_Mo_prefix_94 : decode b_Mo_prefix 94 = .ok (.if_icmp .ne 16, 3) := by decide +kernel
theorem d_Mo_prefix_97 : decode b_Mo_prefix 97 = .ok (.iload_n 3, 1) := by decide +kernel
theorem d_Mo_prefix_98 : decode b_Mo_prefix 98 = .ok (.ifCond .ne 12, 3) := by decide +kernel
theorem d_Mo_prefix_101 : decode b_Mo_prefix 101 = .ok (.aload_n 0, 1) := by decide +kernel
theorem d_Mo_prefix_102 : decode b_Mo_prefix 102 = .ok (.iconst 1, 1) := by decide +kernel
theorem d_Mo_prefix_103 : decode b_Mo_prefix 103 = .ok (.iload_n 1, 1) := by decide +kernel
theorem d_Mo_prefix_104 : decode b_Mo_prefix 104 = .ok (.invokevirtual 173, 3) := by decide +kernel
theorem d_Mo_prefix_107 : decode b_Mo_prefix 107 = .ok (.goto 22, 3) := by decide +kernel
theorem d_Mo_prefix_110 : decode b_Mo_prefix 110 = .ok (.iload_n 2, 1) := by decide +kernel
theorem d_Mo_prefix_111 : decode b_Mo_prefix 111 = .ok (.iconst 1, 1) := by decide +kernel
theorem d_Mo_prefix_112 : decode b_Mo_prefix 112 = .ok (.iand, 1) := by decide +kernel
theorem d_Mo_prefix_113 : decode b_Mo_prefix 113 = .ok (.iconst 1, 1) := by decide +kernel
theorem d_Mo_prefix_114 : decode b_Mo_prefix 114 = .ok (.if_icmp .ne 15, 3) := by decide +kernel
theorem d_Mo_prefix_117 : decode b_Mo_prefix 117 = .ok (.aload_n 0, 1) := by decide +kernel
theorem d_Mo_prefix_118 : decode b_Mo_prefix 118 = .ok (.iconst 1, 1) := by decide +kernel
theorem d_Mo_prefix_119 : decode b_Mo_prefix 119 = .ok (.iload_n 1, 1) := by decide +kernel
theorem d_Mo_prefix_120 : decode b_Mo_prefix 120 = .ok (.aload_n 0, 1) := by decide +kernel
theorem d_Mo_prefix_121 : decode b_Mo_prefix 121 = .ok (.iload_n 3, 1) := by decide +kernel
theorem d_Mo_prefix_122 : decode b_Mo_prefix 122 = .ok (.invokevirtual 99, 3) := by decide +kernel
theorem d_Mo_prefix_125 : decode b_Mo_prefix 125 = .ok (.iconst 0, 1) := by decide +kernel
theorem d_Mo_prefix_126 : decode b_Mo_prefix 126 = .ok (.invokevirtual 176, 3) := by decide +kernel
theorem d_Mo_prefix_129 : decode b_Mo_prefix 129 = .ok (.iload_n 2, 1) := by decide +kernel
theorem d_Mo_prefix_130 : decode b_Mo_prefix 130 = .ok (.iconst 2, 1) := by decide +kernel
theorem d_Mo_prefix_131 : decode b_Mo_prefix 131 = .ok (.iand, 1) := by decide +kernel
theorem d_Mo_prefix_132 : decode b_Mo_prefix 132 = .ok (.iconst 2, 1) := by decide +kernel
theorem d_Mo_prefix_133 : decode b_Mo_prefix 133 = .ok (.if_icmp .ne 62, 3) := by decide +kernel
theorem d_Mo_prefix_136 : decode b_Mo_prefix 136 = .ok (.iload 4, 2) := by decide +kernel
theorem d_Mo_prefix_138 : decode b_Mo_prefix 138 = .ok (.iload_n 3, 1) := by decide +kernel
theorem d_Mo_prefix_139 : decode b_Mo_prefix 139 = .ok (.if_icmp .gt 56, 3) := by decide +kernel
theorem d_Mo_prefix_142 : decode b_Mo_prefix 142 = .ok (.aload_n 0, 1) := by decide +kernel
theorem d_Mo_prefix_143 : decode b_Mo_prefix 143 = .ok (.sipush 256, 3) := by decide +kernel
theorem d_Mo_prefix_146 : decode b_Mo_prefix 146 = .ok (.iload_n 1, 1) := by decide +kernel
theorem d_Mo_prefix_147 : decode b_Mo_prefix 147 = .ok (.imul, 1) := by decide +kernel
theorem d_Mo_prefix_148 : decode b_Mo_prefix 148 = .ok (.aload_n 0, 1) := by decide +kernel
theorem d_Mo_prefix_149 : decode b_Mo_prefix 149 = .ok (.getfield 78, 3) := by decide +kernel
theorem d_Mo_prefix_152 : decode b_Mo_prefix 152 = .ok (.iadd, 1) := by decide +kernel
theorem d_Mo_prefix_153 : decode b_Mo_prefix 153 = .ok (.invokevirtual 180, 3) := by decide +kernel
theorem d_Mo_prefix_156 : decode b_Mo_prefix 156 = .ok (.istore 6, 2) := by decide +kernel
theorem d_Mo_prefix_158 : decode b_Mo_prefix 158 = .ok (.iload 6, 2) := by decide +kernel
theorem d_Mo_prefix_160 : decode b_Mo_prefix 160 = .ok (.ifCond .lt 15, 3) := by decide +kernel
theorem d_Mo_prefix_163 : decode b_Mo_prefix 163 = .ok (.aload_n 0, 1) := by decide +kernel
theorem d_Mo_prefix_164 : decode b_Mo_prefix 164 = .ok (.iload 6, 2) := by decide +kernel
theorem d_Mo_prefix_166 : decode b_Mo_prefix 166 = .ok (.iload_n 3, 1) := by decide +kernel
theorem d_Mo_prefix_167 : decode b_Mo_prefix 167 = .ok (.iload 4, 2) := by decide +kernel
theorem d_Mo_prefix_169 : decode b_Mo_prefix 169 = .ok (.invokevirtual 183, 3) := by decide +kernel
theorem d_Mo_prefix_172 : decode b_Mo_prefix 172 = .ok (.goto 23, 3) := by decide +kernel
theorem d_Mo_prefix_175 : decode b_Mo_prefix 175 = .ok (.iload_n 3, 1) := by decide +kernel
theorem d_Mo_prefix_176 : decode b_Mo_prefix 176 = .ok (.ifCond .le 19, 3) := by decide +kernel
theorem d_Mo_prefix_179 : decode b_Mo_prefix 179 = .ok (.aload_n 0, 1) := by decide +kernel
theorem d_Mo_prefix_180 : decode b_Mo_prefix 180 = .ok (.getfield 96, 3) := by decide +kernel
theorem d_Mo_prefix_183 : decode b_Mo_prefix 183 = .ok (.iconst 5, 1) := by decide +kernel
theorem d_Mo_prefix_184 : decode b_Mo_prefix 184 = .ok (.if_icmp .ge 11, 3) := by decide +kernel
theorem d_Mo_prefix_187 : decode b_Mo_prefix 187 = .ok (.aload_n 0, 1) := by decide +kernel
theorem d_Mo_prefix_188 : decode b_Mo_prefix 188 = .ok (.iload_n 1, 1) := by decide +kernel
theorem d_Mo_prefix_189 : decode b_Mo_prefix 189 = .ok (.iload_n 3, 1) := by decide +kernel
theorem d_Mo_prefix_190 : decode b_Mo_prefix 190 = .ok (.iload 4, 2) := by decide +kernel
theorem d_Mo_prefix_192 : decode b_Mo_prefix 192 = .ok (.invokevirtual 81, 3) := by decide +kernel
theorem d_Mo_prefix_195 : decode b_Mo_prefix 195 = .ok (.return_, 1) := by decide +kernel
theorem d_Mo_ownAt_0 : decode b_Mo_ownAt 0 = .ok (.iconst 0, 1) := by decide +kernel
theorem d_Mo_ownAt_1 : decode b_Mo_ownAt 1 = .ok (.istore_n 2, 1) := by decide +kernel
theorem d_Mo_ownAt_2 : decode b_Mo_ownAt 2 = .ok (.iload_n 2, 1) := by decide +kernel
theorem d_Mo_ownAt_3 : decode b_Mo_ownAt 3 = .ok (.aload_n 0, 1) := by decide +kernel
theorem d_Mo_ownAt_4 : decode b_Mo_ownAt 4 = .ok (.getfield 96, 3) := by decide +kernel
theorem d_Mo_ownAt_7 : decode b_Mo_ownAt 7 = .ok (.if_icmp .ge 21, 3) := by decide +kernel
theorem d_Mo_ownAt_10 : decode b_Mo_ownAt 10 = .ok (.aload_n 0, 1) := by decide +kernel
theorem d_Mo_ownAt_11 : decode b_Mo_ownAt 11 = .ok (.getfield 26, 3) := by decide +kernel
theorem d_Mo_ownAt_14 : decode b_Mo_ownAt 14 = .ok (.iload_n 2, 1) := by decide +kernel
theorem d_Mo_ownAt_15 : decode b_Mo_ownAt 15 = .ok (.iaload, 1) := by decide +kernel
theorem d_Mo_ownAt_16 : decode b_Mo_ownAt 16 = .ok (.iload_n 1, 1) := by decide +kernel
theorem d_Mo_ownAt_17 : decode b_Mo_ownAt 17 = .ok (.if_icmp .ne 5, 3) := by decide +kernel
theorem d_Mo_ownAt_20 : decode b_Mo_ownAt 20 = .ok (.iload_n 2, 1) := by decide +kernel
theorem d_Mo_ownAt_21 : decode b_Mo_ownAt 21 = .ok (.ireturn, 1) := by decide +kernel
theorem d_Mo_ownAt_22 : decode b_Mo_ownAt 22 = .ok (.iinc 2 1, 3) := by decide +kernel
theorem d_Mo_ownAt_25 : decode b_Mo_ownAt 25 = .ok (.goto (-23), 3) := by decide +kernel
theorem d_Mo_ownAt_28 : decode b_Mo_ownAt 28 = .ok (.iconst (-1), 1) := by decide +kernel
theorem d_Mo_ownAt_29 : decode b_Mo_ownAt 29 = .ok (.ireturn, 1) := by decide +kernel
theorem d_Mo_renew_0 : decode b_Mo_renew 0 = .ok (.aload_n 0, 1) := by decide +kernel
theorem d_Mo_renew_1 : decode b_Mo_renew 1 = .ok (.getfield 29, 3) := by decide +kernel
theorem d_Mo_renew_4 : decode b_Mo_renew 4 = .ok (.iload_n 1, 1) := by decide +kernel
theorem d_Mo_renew_5 : decode b_Mo_renew 5 = .ok (.iaload, 1) := by decide +kernel
theorem d_Mo_renew_6 : decode b_Mo_renew 6 = .ok (.iconst 4, 1) := by decide +kernel
theorem d_Mo_renew_7 : decode b_Mo_renew 7 = .ok (.if_icmp .ne 4, 3) := by decide +kernel
theorem d_Mo_renew_10 : decode b_Mo_renew 10 = .ok (.return_, 1) := by decide +kernel
theorem d_Mo_renew_11 : decode b_Mo_renew 11 = .ok (.aload_n 0, 1) := by decide +kernel
theorem d_Mo_renew_12 : decode b_Mo_renew 12 = .ok (.getfield 35, 3) := by decide +kernel
theorem d_Mo_renew_15 : decode b_Mo_renew 15 = .ok (.iload_n 1, 1) := by decide +kernel
theorem d_Mo_renew_16 : decode b_Mo_renew 16 = .ok (.aload_n 0, 1) := by decide +kernel
theorem d_Mo_renew_17 : decode b_Mo_renew 17 = .ok (.iload_n 3, 1) := by decide +kernel
theorem d_Mo_renew_18 : decode b_Mo_renew 18 = .ok (.invokevirtual 99, 3) := by decide +kernel
theorem d_Mo_renew_21 : decode b_Mo_renew 21 = .ok (.iastore, 1) := by decide +kernel
theorem d_Mo_renew_22 : decode b_Mo_renew 22 = .ok (.aload_n 0, 1) := by decide +kernel
theorem d_Mo_renew_23 : decode b_Mo_renew 23 = .ok (.getfield 29, 3) := by decide +kernel
theorem d_Mo_renew_26 : decode b_Mo_renew 26 = .ok (.iload_n 1, 1) := by decide +kernel
theorem d_Mo_renew_27 : decode b_Mo_renew 27 = .ok (.iaload, 1) := by decide +kernel
theorem d_Mo_renew_28 : decode b_Mo_renew 28 = .ok (.iconst 1, 1) := by decide +kernel
theorem d_Mo_renew_29 : decode b_Mo_renew 29 = .ok (.if_icmp .eq 18, 3) := by decide +kernel
theorem d_Mo_renew_32 : decode b_Mo_renew 32 = .ok (.aload_n 0, 1) := by decide +kernel
theorem d_Mo_renew_33 : decode b_Mo_renew 33 = .ok (.getfield 29, 3) := by decide +kernel
theorem d_Mo_renew_36 : decode b_Mo_renew 36 = .ok (.iload_n 1, 1) := by decide +kernel
theorem d_Mo_renew_37 : decode b_Mo_renew 37 = .ok (.iload_n 3, 1) := by decide +kernel
theorem d_Mo_renew_38 : decode b_Mo_renew 38 = .ok (.ifCond .ne 7, 3) := by decide +kernel
theorem d_Mo_renew_41 : decode b_Mo_renew 41 = .ok (.iconst 3, 1) := by decide +kernel
theorem d_Mo_renew_42 : decode b_Mo_renew 42 = .ok (.goto 4, 3) := by decide +kernel
theorem d_Mo_renew_45 : decode b_Mo_renew 45 = .ok (.iconst 2, 1) := by decide +kernel
theorem d_Mo_renew_46 : decode b_Mo_renew 46 = .ok (.iastore, 1) := by decide +kernel
theorem d_Mo_renew_47 : decode b_Mo_renew 47 = .ok (.aload_n 0, 1) := by decide +kernel
theorem d_Mo_renew_48 : decode b_Mo_renew 48 = .ok (.getfield 38, 3) := by decide +kernel
theorem d_Mo_renew_51 : decode b_Mo_renew 51 = .ok (.iload_n 1, 1) := by decide +kernel
theorem d_Mo_renew_52 : decode b_Mo_renew 52 = .ok (.iaload, 1) := by decide +kernel
theorem d_Mo_renew_53 : decode b_Mo_renew 53 = .ok (.aload_n 0, 1) := by decide +kernel
theorem d_Mo_renew_54 : decode b_Mo_renew 54 = .ok (.getfield 89, 3) := by decide +kernel
theorem d_Mo_renew_57 : decode b_Mo_renew 57 = .ok (.isub, 1) := by decide +kernel
theorem d_Mo_renew_58 : decode b_Mo_renew 58 = .ok (.istore 4, 2) := by decide +kernel
theorem d_Mo_renew_60 : decode b_Mo_renew 60 = .ok (.iload_n 2, 1) := by decide +kernel
theorem d_Mo_renew_61 : decode b_Mo_renew 61 = .ok (.bipush 20, 2) := by decide +kernel
theorem d_Mo_renew_63 : decode b_Mo_renew 63 = .ok (.if_icmp .gt 9, 3) := by decide +kernel
theorem d_Mo_renew_66 : decode b_Mo_renew 66 = .ok (.iload_n 2, 1) := by decide +kernel
theorem d_Mo_renew_67 : decode b_Mo_renew 67 = .ok (.iload 4, 2) := by decide +kernel
theorem d_Mo_renew_69 : decode b_Mo_renew 69 = .ok (.if_icmp .le 17, 3) := by decide +kernel
theorem d_Mo_renew_72 : decode b_Mo_renew 72 = .ok (.aload_n 0, 1) := by decide +kernel
theorem d_Mo_renew_73 : decode b_Mo_renew 73 = .ok (.getfield 38, 3) := by decide +kernel
theorem d_Mo_renew_76 : decode b_Mo_renew 76 = .ok (.iload_n 1, 1) := by decide +kernel
theorem d_Mo_renew_77 : decode b_Mo_renew 77 = .ok (.aload_n 0, 1) := by decide +kernel
theorem d_Mo_renew_78 : decode b_Mo_renew 78 = .ok (.iload_n 2, 1) := by decide +kernel
theorem d_Mo_renew_79 : decode b_Mo_renew 79 = .ok (.invokevirtual 99, 3) := by decide +kernel
theorem d_Mo_renew_82 : decode b_Mo_renew 82 = .ok (.iastore, 1) := by decide +kernel
theorem d_Mo_renew_83 : decode b_Mo_renew 83 = .ok (.goto 23, 3) := by decide +kernel
theorem d_Mo_renew_86 : decode b_Mo_renew 86 = .ok (.iload 4, 2) := by decide +kernel
theorem d_Mo_renew_88 : decode b_Mo_renew 88 = .ok (.bipush 20, 2) := by decide +kernel
theorem d_Mo_renew_90 : decode b_Mo_renew 90 = .ok (.if_icmp .le 16, 3) := by decide +kernel
theorem d_Mo_renew_93 : decode b_Mo_renew 93 = .ok (.aload_n 0, 1) := by decide +kernel
theorem d_Mo_renew_94 : decode b_Mo_renew 94 = .ok (.getfield 38, 3) := by decide +kernel
theorem d_Mo_renew_97 : decode b_Mo_renew 97 = .ok (.iload_n 1, 1) := by decide +kernel
theorem d_Mo_renew_98 : decode b_Mo_renew 98 = .ok (.aload_n 0, 1) := by decide +kernel
theorem d_Mo_renew_99 : decode b_Mo_renew 99 = .ok (.getfield 89, 3) := by decide +kernel
theorem d_Mo_renew_102 : decode b_Mo_renew 102 = .ok (.bipush 20, 2) := by decide +kernel
theorem d_Mo_renew_104 : decode b_Mo_renew 104 = .ok (.iadd, 1) := by decide +kernel
theorem d_Mo_renew_105 : decode b_Mo_renew 105 = .ok (.iastore, 1) := by decide +kernel
theorem d_Mo_renew_106 : decode b_Mo_renew 106 = .ok (.return_, 1) := by decide +kernel
theorem d_Mo_asked_0 : decode b_Mo_asked 0 = .ok (.iload_n 1, 1) := by decide +kernel
theorem d_Mo_asked_1 : decode b_Mo_asked 1 = .ok (.ifCond .eq 11, 3) := by decide +kernel
theorem d_Mo_asked_4 : decode b_Mo_asked 4 = .ok (.aload_n 0, 1) := by decide +kernel
theorem d_Mo_asked_5 : decode b_Mo_asked 5 = .ok (.iload_n 1, 1) := by decide +kernel
theorem d_Mo_asked_6 : decode b_Mo_asked 6 = .ok (.invokevirtual 186, 3) := by decide +kernel
theorem d_Mo_asked_9 : decode b_Mo_asked 9 = .ok (.ifCond .eq 19, 3) := by decide +kernel
theorem d_Mo_asked_12 : decode b_Mo_asked 12 = .ok (.aload_n 0, 1) := by decide +kernel
theorem d_Mo_asked_13 : decode b_Mo_asked 13 = .ok (.iload_n 2, 1) := by decide +kernel
theorem d_Mo_asked_14 : decode b_Mo_asked 14 = .ok (.invokevirtual 186, 3) := by decide +kernel
theorem d_Mo_asked_17 : decode b_Mo_asked 17 = .ok (.ifCond .eq 11, 3) := by decide +kernel
theorem d_Mo_asked_20 : decode b_Mo_asked 20 = .ok (.aload_n 0, 1) := by decide +kernel
theorem d_Mo_asked_21 : decode b_Mo_asked 21 = .ok (.iload_n 3, 1) := by decide +kernel
theorem d_Mo_asked_22 : decode b_Mo_asked 22 = .ok (.invokevirtual 167, 3) := by decide +kernel
theorem d_Mo_asked_25 : decode b_Mo_asked 25 = .ok (.ifCond .ne 7, 3) := by decide +kernel
theorem d_Mo_asked_28 : decode b_Mo_asked 28 = .ok (.iconst 1, 1) := by decide +kernel
theorem d_Mo_asked_29 : decode b_Mo_asked 29 = .ok (.goto 4, 3) := by decide +kernel
theorem d_Mo_asked_32 : decode b_Mo_asked 32 = .ok (.iconst 0, 1) := by decide +kernel
theorem d_Mo_asked_33 : decode b_Mo_asked 33 = .ok (.istore 4, 2) := by decide +kernel
theorem d_Mo_asked_35 : decode b_Mo_asked 35 = .ok (.aload_n 0, 1) := by decide +kernel
theorem d_Mo_asked_36 : decode b_Mo_asked 36 = .ok (.iload 4, 2) := by decide +kernel
theorem d_Mo_asked_38 : decode b_Mo_asked 38 = .ok (.ifCond .eq 7, 3) := by decide +kernel
theorem d_Mo_asked_41 : decode b_Mo_asked 41 = .ok (.iconst 1, 1) := by decide +kernel
theorem d_Mo_asked_42 : decode b_Mo_asked 42 = .ok (.goto 15, 3) := by decide +kernel
theorem d_Mo_asked_45 : decode b_Mo_asked 45 = .ok (.aload_n 0, 1) := by decide +kernel
theorem d_Mo_asked_46 : decode b_Mo_asked 46 = .ok (.getfield 107, 3) := by decide +kernel
theorem d_Mo_asked_49 : decode b_Mo_asked 49 = .ok (.ifCond .eq 7, 3) := by decide +kernel
theorem d_Mo_asked_52 : decode b_Mo_asked 52 = .ok (.iconst 2, 1) := by decide +kernel
theorem d_Mo_asked_53 : decode b_Mo_asked 53 = .ok (.goto 4, 3) := by decide +kernel
theorem d_Mo_asked_56 : decode b_Mo_asked 56 = .ok (.iconst 0, 1) := by decide +kernel
theorem d_Mo_asked_57 : decode b_Mo_asked 57 = .ok (.putfield 85, 3) := by decide +kernel
theorem d_Mo_asked_60 : decode b_Mo_asked 60 = .ok (.aload_n 0, 1) := by decide +kernel
theorem d_Mo_asked_61 : decode b_Mo_asked 61 = .ok (.getfield 85, 3) := by decide +kernel
theorem d_Mo_asked_64 : decode b_Mo_asked 64 = .ok (.ifCond .eq 4, 3) := by decide +kernel
theorem d_Mo_asked_67 : decode b_Mo_asked 67 = .ok (.return_, 1) := by decide +kernel
theorem d_Mo_asked_68 : decode b_Mo_asked 68 = .ok (.aload_n 0, 1) := by decide +kernel
theorem d_Mo_asked_69 : decode b_Mo_asked 69 = .ok (.iload_n 2, 1) := by decide +kernel
theorem d_Mo_asked_70 : decode b_Mo_asked 70 = .ok (.invokevirtual 180, 3) := by decide +kernel
theorem d_Mo_asked_73 : decode b_Mo_asked 73 = .ok (.istore 5, 2) := by decide +kernel
theorem d_Mo_asked_75 : decode b_Mo_asked 75 = .ok (.iload_n 1, 1) := by decide +kernel
theorem d_Mo_asked_76 : decode b_Mo_asked 76 = .ok (.ifCond .ne 28, 3) := by decide +kernel
theorem d_Mo_asked_79 : decode b_Mo_asked 79 = .ok (.iload 5, 2) := by decide +kernel
theorem d_Mo_asked_81 : decode b_Mo_asked 81 = .ok (.ifCond .lt 23, 3) := by decide +kernel
theorem d_Mo_asked_84 : decode b_Mo_asked 84 = .ok (.aload_n 0, 1) := by decide +kernel
theorem d_Mo_asked_85 : decode b_Mo_asked 85 = .ok (.getfield 29, 3) := by decide +kernel
theorem d_Mo_asked_88 : decode b_Mo_asked 88 = .ok (.iload 5, 2) := by decide +kernel
theorem d_Mo_asked_90 : decode b_Mo_asked 90 = .ok (.iaload, 1) := by decide +kernel
theorem d_Mo_asked_91 : decode b_Mo_asked 91 = .ok (.iconst 1, 1) := by decide +kernel
theorem d_Mo_asked_92 : decode b_Mo_asked 92 = .ok (.if_icmp .ne 12, 3) := by decide +kernel
theorem d_Mo_asked_95 : decode b_Mo_asked 95 = .ok (.aload_n 0, 1) := by decide +kernel
theorem d_Mo_asked_96 : decode b_Mo_asked 96 = .ok (.iload 5, 2) := by decide +kernel
theorem d_Mo_asked_98 : decode b_Mo_asked 98 = .ok (.invokevirtual 189, 3) := by decide +kernel
theorem d_Mo_asked_101 : decode b_Mo_asked 101 = .ok (.goto 40, 3) := by decide +kernel
theorem d_Mo_asked_104 : decode b_Mo_asked 104 = .ok (.aload_n 0, 1) := by decide +kernel
theorem d_Mo_asked_105 : decode b_Mo_asked 105 = .ok (.iload 5, 2) := by decide +kernel
theorem d_Mo_asked_107 : decode b_Mo_asked 107 = .ok (.invokevirtual 192, 3) := by decide +kernel
theorem d_Mo_asked_110 : decode b_Mo_asked 110 = .ok (.ifCond .eq 31, 3) := by decide +kernel
theorem d_Mo_asked_113 : decode b_Mo_asked 113 = .ok (.iload_n 1, 1) := by decide +kernel
theorem d_Mo_asked_114 : decode b_Mo_asked 114 = .ok (.ifCond .eq 11, 3) := by decide +kernel
theorem d_Mo_asked_117 : decode b_Mo_asked 117 = .ok (.aload_n 0, 1) := by decide +kernel
theorem d_Mo_asked_118 : decode b_Mo_asked 118 = .ok (.iload_n 1, 1) := by decide +kernel
theorem d_Mo_asked_119 : decode b_Mo_asked 119 = .ok (.iload_n 3, 1) := by decide +kernel
theorem d_Mo_asked_120 : decode b_Mo_asked 120 = .ok (.invokevirtual 170, 3) := by decide +kernel
theorem d_Mo_asked_123 : decode b_Mo_asked 123 = .ok (.istore 6, 2) := by decide +kernel
theorem d_Mo_asked_125 : decode b_Mo_asked 125 = .ok (.aload_n 0, 1) := by decide +kernel
theorem d_Mo_asked_126 : decode b_Mo_asked 126 = .ok (.iconst 3, 1) := by decide +kernel
theorem d_Mo_asked_127 : decode b_Mo_asked 127 = .ok (.iload_n 1, 1) := by decide +kernel
theorem d_Mo_asked_128 : decode b_Mo_asked 128 = .ok (.ifCond .ne 8, 3) := by decide +kernel
theorem d_Mo_asked_131 : decode b_Mo_asked 131 = .ok (.ldc 103, 2) := by decide +kernel
theorem d_Mo_asked_133 : decode b_Mo_asked 133 = .ok (.goto 4, 3) := by decide +kernel
theorem d_Mo_asked_136 : decode b_Mo_asked 136 = .ok (.iload_n 1, 1) := by decide +kernel
theorem d_Mo_asked_137 : decode b_Mo_asked 137 = .ok (.iload_n 2, 1) := by decide +kernel
theorem d_Mo_asked_138 : decode b_Mo_asked 138 = .ok (.invokevirtual 104, 3) := by decide +kernel
theorem d_Mo_asked_141 : decode b_Mo_asked 141 = .ok (.return_, 1) := by decide +kernel
