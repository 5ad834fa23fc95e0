/-! decode rows: by a program -/
theorem d_Tr_length_0 : decode b_Tr_length 0 = .ok (.aload_n 0, 1) := by decide +kernel
theorem d_Tr_length_1 : decode b_Tr_length 1 = .ok (.getfield 10, 3) := by decide +kernel
theorem d_Tr_length_4 : decode b_Tr_length 4 = .ok (.invokevirtual 20, 3) := by decide +kernel
theorem d_Tr_length_7 : decode b_Tr_length 7 = .ok (.ireturn, 1) := by decide +kernel
theorem d_Tr_at_0 : decode b_Tr_at 0 = .ok (.aload_n 0, 1) := by decide +kernel
theorem d_Tr_at_1 : decode b_Tr_at 1 = .ok (.getfield 10, 3) := by decide +kernel
theorem d_Tr_at_4 : decode b_Tr_at 4 = .ok (.iload_n 1, 1) := by decide +kernel
theorem d_Tr_at_5 : decode b_Tr_at 5 = .ok (.invokevirtual 24, 3) := by decide +kernel
theorem d_Tr_at_8 : decode b_Tr_at 8 = .ok (.checkcast 28, 3) := by decide +kernel
theorem d_Tr_at_11 : decode b_Tr_at 11 = .ok (.areturn, 1) := by decide +kernel
theorem d_Ho_sendThrough_0 : decode b_Ho_sendThrough 0 = .ok (.aload_n 0, 1) := by decide +kernel
theorem d_Ho_sendThrough_1 : decode b_Ho_sendThrough 1 = .ok (.getfield 26, 3) := by decide +kernel
theorem d_Ho_sendThrough_4 : decode b_Ho_sendThrough 4 = .ok (.iload_n 1, 1) := by decide +kernel
theorem d_Ho_sendThrough_5 : decode b_Ho_sendThrough 5 = .ok (.invokevirtual 163, 3) := by decide +kernel
theorem d_Ho_sendThrough_8 : decode b_Ho_sendThrough 8 = .ok (.astore_n 3, 1) := by decide +kernel
theorem d_Ho_sendThrough_9 : decode b_Ho_sendThrough 9 = .ok (.aload_n 3, 1) := by decide +kernel
theorem d_Ho_sendThrough_10 : decode b_Ho_sendThrough 10 = .ok (.ifnonnull 31, 3) := by decide +kernel
theorem d_Ho_sendThrough_13 : decode b_Ho_sendThrough 13 = .ok (.new 118, 3) := by decide +kernel
theorem d_Ho_sendThrough_16 : decode b_Ho_sendThrough 16 = .ok (.dup, 1) := by decide +kernel
theorem d_Ho_sendThrough_17 : decode b_Ho_sendThrough 17 = .ok (.iload_n 1, 1) := by decide +kernel
theorem d_Ho_sendThrough_18 : decode b_Ho_sendThrough 18 = .ok (.iconst 0, 1) := by decide +kernel
theorem d_Ho_sendThrough_19 : decode b_Ho_sendThrough 19 = .ok (.iconst 1, 1) := by decide +kernel
theorem d_Ho_sendThrough_20 : decode b_Ho_sendThrough 20 = .ok (.aload_n 0, 1) := by decide +kernel
theorem d_Ho_sendThrough_21 : decode b_Ho_sendThrough 21 = .ok (.getfield 52, 3) := by decide +kernel
theorem d_Ho_sendThrough_24 : decode b_Ho_sendThrough 24 = .ok (.invokespecial 325, 3) := by decide +kernel
theorem d_Ho_sendThrough_27 : decode b_Ho_sendThrough 27 = .ok (.astore_n 3, 1) := by decide +kernel
theorem d_Ho_sendThrough_28 : decode b_Ho_sendThrough 28 = .ok (.aload_n 0, 1) := by decide +kernel
theorem d_Ho_sendThrough_29 : decode b_Ho_sendThrough 29 = .ok (.getfield 26, 3) := by decide +kernel
theorem d_Ho_sendThrough_32 : decode b_Ho_sendThrough 32 = .ok (.aload_n 3, 1) := by decide +kernel
theorem d_Ho_sendThrough_33 : decode b_Ho_sendThrough 33 = .ok (.invokevirtual 328, 3) := by decide +kernel
theorem d_Ho_sendThrough_36 : decode b_Ho_sendThrough 36 = .ok (.aload_n 0, 1) := by decide +kernel
theorem d_Ho_sendThrough_37 : decode b_Ho_sendThrough 37 = .ok (.aload_n 3, 1) := by decide +kernel
theorem d_Ho_sendThrough_38 : decode b_Ho_sendThrough 38 = .ok (.invokevirtual 311, 3) := by decide +kernel
theorem d_Ho_sendThrough_41 : decode b_Ho_sendThrough 41 = .ok (.aload_n 3, 1) := by decide +kernel
theorem d_Ho_sendThrough_42 : decode b_Ho_sendThrough 42 = .ok (.getfield 236, 3) := by decide +kernel
theorem d_Ho_sendThrough_45 : decode b_Ho_sendThrough 45 = .ok (.iconst 1, 1) := by decide +kernel
theorem d_Ho_sendThrough_46 : decode b_Ho_sendThrough 46 = .ok (.if_icmp .ne 10, 3) := by decide +kernel
theorem d_Ho_sendThrough_49 : decode b_Ho_sendThrough 49 = .ok (.aload_n 3, 1) := by decide +kernel
theorem d_Ho_sendThrough_50 : decode b_Ho_sendThrough 50 = .ok (.iload_n 2, 1) := by decide +kernel
theorem d_Ho_sendThrough_51 : decode b_Ho_sendThrough 51 = .ok (.putfield 343, 3) := by decide +kernel
theorem d_Ho_sendThrough_54 : decode b_Ho_sendThrough 54 = .ok (.iconst 1, 1) := by decide +kernel
theorem d_Ho_sendThrough_55 : decode b_Ho_sendThrough 55 = .ok (.ireturn, 1) := by decide +kernel
theorem d_Ho_sendThrough_56 : decode b_Ho_sendThrough 56 = .ok (.aload_n 0, 1) := by decide +kernel
theorem d_Ho_sendThrough_57 : decode b_Ho_sendThrough 57 = .ok (.aload_n 3, 1) := by decide +kernel
theorem d_Ho_sendThrough_58 : decode b_Ho_sendThrough 58 = .ok (.iload_n 2, 1) := by decide +kernel
theorem d_Ho_sendThrough_59 : decode b_Ho_sendThrough 59 = .ok (.invokevirtual 346, 3) := by decide +kernel
theorem d_Ho_sendThrough_62 : decode b_Ho_sendThrough 62 = .ok (.iconst 0, 1) := by decide +kernel
theorem d_Ho_sendThrough_63 : decode b_Ho_sendThrough 63 = .ok (.ireturn, 1) := by decide +kernel
theorem d_La_smaller_0 : decode b_La_smaller 0 = .ok (.aload_n 0, 1) := by decide +kernel
theorem d_La_smaller_1 : decode b_La_smaller 1 = .ok (.iload_n 1, 1) := by decide +kernel
theorem d_La_smaller_2 : decode b_La_smaller 2 = .ok (.iload_n 2, 1) := by decide +kernel
theorem d_La_smaller_3 : decode b_La_smaller 3 = .ok (.invokevirtual 35, 3) := by decide +kernel
theorem d_La_smaller_6 : decode b_La_smaller 6 = .ok (.goto 9, 3) := by decide +kernel
theorem d_La_smaller_9 : decode b_La_smaller 9 = .ok (.astore_n 3, 1) := by decide +kernel
theorem d_La_smaller_10 : decode b_La_smaller 10 = .ok (.iconst 1, 1) := by decide +kernel
theorem d_La_smaller_11 : decode b_La_smaller 11 = .ok (.ireturn, 1) := by decide +kernel
theorem d_La_smaller_12 : decode b_La_smaller 12 = .ok (.astore_n 3, 1) := by decide +kernel
theorem d_La_smaller_13 : decode b_La_smaller 13 = .ok (.iconst 2, 1) := by decide +kernel
theorem d_La_smaller_14 : decode b_La_smaller 14 = .ok (.ireturn, 1) := by decide +kernel
theorem d_La_smaller_15 : decode b_La_smaller 15 = .ok (.iconst 0, 1) := by decide +kernel
theorem d_La_smaller_16 : decode b_La_smaller 16 = .ok (.ireturn, 1) := by decide +kernel
theorem d_Ho_smaller_0 : decode b_Ho_smaller 0 = .ok (.iload_n 1, 1) := by decide +kernel
theorem d_Ho_smaller_1 : decode b_Ho_smaller 1 = .ok (.invokestatic 139, 3) := by decide +kernel
theorem d_Ho_smaller_4 : decode b_Ho_smaller 4 = .ok (.ifCond .eq 17, 3) := by decide +kernel
theorem d_Ho_smaller_7 : decode b_Ho_smaller 7 = .ok (.iload_n 2, 1) := by decide +kernel
theorem d_Ho_smaller_8 : decode b_Ho_smaller 8 = .ok (.iconst 0, 1) := by decide +kernel
theorem d_Ho_smaller_9 : decode b_Ho_smaller 9 = .ok (.bipush 40, 2) := by decide +kernel
theorem d_Ho_smaller_11 : decode b_Ho_smaller 11 = .ok (.invokestatic 89, 3) := by decide +kernel
theorem d_Ho_smaller_14 : decode b_Ho_smaller 14 = .ok (.ifCond .eq 7, 3) := by decide +kernel
theorem d_Ho_smaller_17 : decode b_Ho_smaller 17 = .ok (.iconst 1, 1) := by decide +kernel
theorem d_Ho_smaller_18 : decode b_Ho_smaller 18 = .ok (.goto 4, 3) := by decide +kernel
theorem d_Ho_smaller_21 : decode b_Ho_smaller 21 = .ok (.iconst 0, 1) := by decide +kernel
theorem d_Ho_smaller_22 : decode b_Ho_smaller 22 = .ok (.invokestatic 93, 3) := by decide +kernel
theorem d_Ho_smaller_25 : decode b_Ho_smaller 25 = .ok (.aload_n 0, 1) := by decide +kernel
theorem d_Ho_smaller_26 : decode b_Ho_smaller 26 = .ok (.invokevirtual 107, 3) := by decide +kernel
theorem d_Ho_smaller_29 : decode b_Ho_smaller 29 = .ok (.iload_n 2, 1) := by decide +kernel
theorem d_Ho_smaller_30 : decode b_Ho_smaller 30 = .ok (.bipush 8, 2) := by decide +kernel
theorem d_Ho_smaller_32 : decode b_Ho_smaller 32 = .ok (.if_icmp .lt 28, 3) := by decide +kernel
theorem d_Ho_smaller_35 : decode b_Ho_smaller 35 = .ok (.aload_n 0, 1) := by decide +kernel
theorem d_Ho_smaller_36 : decode b_Ho_smaller 36 = .ok (.iload_n 1, 1) := by decide +kernel
theorem d_Ho_smaller_37 : decode b_Ho_smaller 37 = .ok (.invokevirtual 177, 3) := by decide +kernel
theorem d_Ho_smaller_40 : decode b_Ho_smaller 40 = .ok (.iload_n 2, 1) := by decide +kernel
theorem d_Ho_smaller_41 : decode b_Ho_smaller 41 = .ok (.if_icmp .le 19, 3) := by decide +kernel
theorem d_Ho_smaller_44 : decode b_Ho_smaller 44 = .ok (.aload_n 0, 1) := by decide +kernel
theorem d_Ho_smaller_45 : decode b_Ho_smaller 45 = .ok (.getfield 42, 3) := by decide +kernel
theorem d_Ho_smaller_48 : decode b_Ho_smaller 48 = .ok (.iload_n 1, 1) := by decide +kernel
theorem d_Ho_smaller_49 : decode b_Ho_smaller 49 = .ok (.aload_n 0, 1) := by decide +kernel
theorem d_Ho_smaller_50 : decode b_Ho_smaller 50 = .ok (.getfield 52, 3) := by decide +kernel
theorem d_Ho_smaller_53 : decode b_Ho_smaller 53 = .ok (.bipush 30, 2) := by decide +kernel
theorem d_Ho_smaller_55 : decode b_Ho_smaller 55 = .ok (.iadd, 1) := by decide +kernel
theorem d_Ho_smaller_56 : decode b_Ho_smaller 56 = .ok (.iload_n 2, 1) := by decide +kernel
theorem d_Ho_smaller_57 : decode b_Ho_smaller 57 = .ok (.invokevirtual 129, 3) := by decide +kernel
theorem d_Ho_smaller_60 : decode b_Ho_smaller 60 = .ok (.return_, 1) := by decide +kernel
theorem d_La_header_0 : decode b_La_header 0 = .ok (.aload_n 3, 1) := by decide +kernel
theorem d_La_header_1 : decode b_La_header 1 = .ok (.iconst 0, 1) := by decide +kernel
theorem d_La_header_2 : decode b_La_header 2 = .ok (.aload_n 0, 1) := by decide +kernel
theorem d_La_header_3 : decode b_La_header 3 = .ok (.iload_n 1, 1) := by decide +kernel
theorem d_La_header_4 : decode b_La_header 4 = .ok (.iload_n 2, 1) := by decide +kernel
theorem d_La_header_5 : decode b_La_header 5 = .ok (.invokevirtual 39, 3) := by decide +kernel
theorem d_La_header_8 : decode b_La_header 8 = .ok (.i2l, 1) := by decide +kernel
theorem d_La_header_9 : decode b_La_header 9 = .ok (.lastore, 1) := by decide +kernel
theorem d_La_header_10 : decode b_La_header 10 = .ok (.goto 11, 3) := by decide +kernel
theorem d_La_header_13 : decode b_La_header 13 = .ok (.astore 4, 2) := by decide +kernel
theorem d_La_header_15 : decode b_La_header 15 = .ok (.iconst 1, 1) := by decide +kernel
theorem d_La_header_16 : decode b_La_header 16 = .ok (.ireturn, 1) := by decide +kernel
theorem d_La_header_17 : decode b_La_header 17 = .ok (.astore 4, 2) := by decide +kernel
theorem d_La_header_19 : decode b_La_header 19 = .ok (.iconst 2, 1) := by decide +kernel
theorem d_La_header_20 : decode b_La_header 20 = .ok (.ireturn, 1) := by decide +kernel
theorem d_La_header_21 : decode b_La_header 21 = .ok (.iconst 0, 1) := by decide +kernel
theorem d_La_header_22 : decode b_La_header 22 = .ok (.ireturn, 1) := by decide +kernel
theorem d_Ho_header_0 : decode b_Ho_header 0 = .ok (.iload_n 1, 1) := by decide +kernel
theorem d_Ho_header_1 : decode b_Ho_header 1 = .ok (.iconst 0, 1) := by decide +kernel
theorem d_Ho_header_2 : decode b_Ho_header 2 = .ok (.bipush 9, 2) := by decide +kernel
theorem d_Ho_header_4 : decode b_Ho_header 4 = .ok (.invokestatic 89, 3) := by decide +kernel
theorem d_Ho_header_7 : decode b_Ho_header 7 = .ok (.ifCond .eq 16, 3) := by decide +kernel
theorem d_Ho_header_10 : decode b_Ho_header 10 = .ok (.iload_n 2, 1) := by decide +kernel
theorem d_Ho_header_11 : decode b_Ho_header 11 = .ok (.iconst 0, 1) := by decide +kernel
theorem d_Ho_header_12 : decode b_Ho_header 12 = .ok (.iconst 3, 1) := by decide +kernel
theorem d_Ho_header_13 : decode b_Ho_header 13 = .ok (.invokestatic 89, 3) := by decide +kernel
theorem d_Ho_header_16 : decode b_Ho_header 16 = .ok (.ifCond .eq 7, 3) := by decide +kernel
theorem d_Ho_header_19 : decode b_Ho_header 19 = .ok (.iconst 1, 1) := by decide +kernel
theorem d_Ho_header_20 : decode b_Ho_header 20 = .ok (.goto 4, 3) := by decide +kernel
theorem d_Ho_header_23 : decode b_Ho_header 23 = .ok (.iconst 0, 1) := by decide +kernel
theorem d_Ho_header_24 : decode b_Ho_header 24 = .ok (.invokestatic 93, 3) := by decide +kernel
theorem d_Ho_header_27 : decode b_Ho_header 27 = .ok (.aload_n 0, 1) := by decide +kernel
theorem d_Ho_header_28 : decode b_Ho_header 28 = .ok (.getfield 48, 3) := by decide +kernel
theorem d_Ho_header_31 : decode b_Ho_header 31 = .ok (.invokevirtual 190, 3) := by decide +kernel
theorem d_Ho_header_34 : decode b_Ho_header 34 = .ok (.ifCond .eq 13, 3) := by decide +kernel
theorem d_Ho_header_37 : decode b_Ho_header 37 = .ok (.new 193, 3) := by decide +kernel
theorem d_Ho_header_40 : decode b_Ho_header 40 = .ok (.dup, 1) := by decide +kernel
theorem d_Ho_header_41 : decode b_Ho_header 41 = .ok (.ldc 195, 2) := by decide +kernel
theorem d_Ho_header_43 : decode b_Ho_header 43 = .ok (.invokespecial 197, 3) := by decide +kernel
theorem d_Ho_header_46 : decode b_Ho_header 46 = .ok (.athrow, 1) := by decide +kernel
theorem d_Ho_header_47 : decode b_Ho_header 47 = .ok (.aload_n 0, 1) := by decide +kernel
theorem d_Ho_header_48 : decode b_Ho_header 48 = .ok (.getfield 48, 3) := by decide +kernel
theorem d_Ho_header_51 : decode b_Ho_header 51 = .ok (.iload_n 1, 1) := by decide +kernel
theorem d_Ho_header_52 : decode b_Ho_header 52 = .ok (.iload_n 2, 1) := by decide +kernel
theorem d_Ho_header_53 : decode b_Ho_header 53 = .ok (.invokevirtual 200, 3) := by decide +kernel
theorem d_Ho_header_56 : decode b_Ho_header 56 = .ok (.aload_n 0, 1) := by decide +kernel
theorem d_Ho_header_57 : decode b_Ho_header 57 = .ok (.getfield 48, 3) := by decide +kernel
theorem d_Ho_header_60 : decode b_Ho_header 60 = .ok (.getfield 202, 3) := by decide +kernel
theorem d_Ho_header_63 : decode b_Ho_header 63 = .ok (.ireturn, 1) := by decide +kernel
theorem d_Hd_isFull_0 : decode b_Hd_isFull 0 = .ok (.aload_n 0, 1) := by decide +kernel
theorem d_Hd_isFull_1 : decode b_Hd_isFull 1 = .ok (.getfield 18, 3) := by decide +kernel
theorem d_Hd_isFull_4 : decode b_Hd_isFull 4 = .ok (.bipush 6, 2) := by decide +kernel
theorem d_Hd_isFull_6 : decode b_Hd_isFull 6 = .ok (.if_icmp .lt 7, 3) := by decide +kernel
theorem d_Hd_isFull_9 : decode b_Hd_isFull 9 = .ok (.iconst 1, 1) := by decide +kernel
theorem d_Hd_isFull_10 : decode b_Hd_isFull 10 = .ok (.goto 4, 3) := by decide +kernel
theorem d_Hd_isFull_13 : decode b_Hd_isFull 13 = .ok (.iconst 0, 1) := by decide +kernel
theorem d_Hd_isFull_14 : decode b_Hd_isFull 14 = .ok (.ireturn, 1) := by decide +kernel
theorem d_Hd_add_0 : decode b_Hd_add 0 = .ok (.aload_n 0, 1) := by decide +kernel
theorem d_Hd_add_1 : decode b_Hd_add 1 = .ok (.getfield 9, 3) := by decide +kernel
theorem d_Hd_add_4 : decode b_Hd_add 4 = .ok (.aload_n 0, 1) := by decide +kernel
theorem d_Hd_add_5 : decode b_Hd_add 5 = .ok (.getfield 18, 3) := by decide +kernel
theorem d_Hd_add_8 : decode b_Hd_add 8 = .ok (.iload_n 1, 1) := by decide +kernel
theorem d_Hd_add_9 : decode b_Hd_add 9 = .ok (.iastore, 1) := by decide +kernel
theorem d_Hd_add_10 : decode b_Hd_add 10 = .ok (.aload_n 0, 1) := by decide +kernel
theorem d_Hd_add_11 : decode b_Hd_add 11 = .ok (.getfield 15, 3) := by decide +kernel
theorem d_Hd_add_14 : decode b_Hd_add 14 = .ok (.aload_n 0, 1) := by decide +kernel
theorem d_Hd_add_15 : decode b_Hd_add 15 = .ok (.getfield 18, 3) := by decide +kernel
theorem d_Hd_add_18 : decode b_Hd_add 18 = .ok (.iload_n 2, 1) := by decide +kernel
theorem d_Hd_add_19 : decode b_Hd_add 19 = .ok (.iastore, 1) := by decide +kernel
theorem d_Hd_add_20 : decode b_Hd_add 20 = .ok (.aload_n 0, 1) := by decide +kernel
theorem d_Hd_add_21 : decode b_Hd_add 21 = .ok (.dup, 1) := by decide +kernel
theorem d_Hd_add_22 : decode b_Hd_add 22 = .ok (.getfield 18, 3) := by decide +kernel
theorem d_Hd_add_25 : decode b_Hd_add 25 = .ok (.iconst 1, 1) := by decide +kernel
theorem d_Hd_add_26 : decode b_Hd_add 26 = .ok (.iadd, 1) := by decide +kernel
theorem d_Hd_add_27 : decode b_Hd_add 27 = .ok (.putfield 18, 3) := by decide +kernel
theorem d_Hd_add_30 : decode b_Hd_add 30 = .ok (.return_, 1) := by decide +kernel
theorem d_La_come_0 : decode b_La_come 0 = .ok (.aload_n 3, 1) := by decide +kernel
theorem d_La_come_1 : decode b_La_come 1 = .ok (.iconst 0, 1) := by decide +kernel
theorem d_La_come_2 : decode b_La_come 2 = .ok (.aload_n 0, 1) := by decide +kernel
theorem d_La_come_3 : decode b_La_come 3 = .ok (.iload_n 1, 1) := by decide +kernel
theorem d_La_come_4 : decode b_La_come 4 = .ok (.iload_n 2, 1) := by decide +kernel
theorem d_La_come_5 : decode b_La_come 5 = .ok (.invokevirtual 42, 3) := by decide +kernel
theorem d_La_come_8 : decode b_La_come 8 = .ok (.i2l, 1) := by decide +kernel
theorem d_La_come_9 : decode b_La_come 9 = .ok (.lastore, 1) := by decide +kernel
theorem d_La_come_10 : decode b_La_come 10 = .ok (.goto 11, 3) := by decide +kernel
theorem d_La_come_13 : decode b_La_come 13 = .ok (.astore 4, 2) := by decide +kernel
theorem d_La_come_15 : decode b_La_come 15 = .ok (.iconst 1, 1) := by decide +kernel
theorem d_La_come_16 : decode b_La_come 16 = .ok (.ireturn, 1) := by decide +kernel
theorem d_La_come_17 : decode b_La_come 17 = .ok (.astore 4, 2) := by decide +kernel
theorem d_La_come_19 : decode b_La_come 19 = .ok (.iconst 2, 1) := by decide +kernel
theorem d_La_come_20 : decode b_La_come 20 = .ok (.ireturn, 1) := by decide +kernel
theorem d_La_come_21 : decode b_La_come 21 = .ok (.iconst 0, 1) := by decide +kernel
theorem d_La_come_22 : decode b_La_come 22 = .ok (.ireturn, 1) := by decide +kernel
theorem d_Ho_come_0 : decode b_Ho_come 0 = .ok (.iload_n 1, 1) := by decide +kernel
theorem d_Ho_come_1 : decode b_Ho_come 1 = .ok (.ifCond .eq 10, 3) := by decide +kernel
theorem d_Ho_come_4 : decode b_Ho_come 4 = .ok (.iload_n 1, 1) := by decide +kernel
theorem d_Ho_come_5 : decode b_Ho_come 5 = .ok (.invokestatic 139, 3) := by decide +kernel
theorem d_Ho_come_8 : decode b_Ho_come 8 = .ok (.ifCond .eq 20, 3) := by decide +kernel
theorem d_Ho_come_11 : decode b_Ho_come 11 = .ok (.iload_n 2, 1) := by decide +kernel
theorem d_Ho_come_12 : decode b_Ho_come 12 = .ok (.ldc 152, 2) := by decide +kernel
theorem d_Ho_come_14 : decode b_Ho_come 14 = .ok (.if_icmp .eq 10, 3) := by decide +kernel
theorem d_Ho_come_17 : decode b_Ho_come 17 = .ok (.iload_n 2, 1) := by decide +kernel
theorem d_Ho_come_18 : decode b_Ho_come 18 = .ok (.invokestatic 139, 3) := by decide +kernel
theorem d_Ho_come_21 : decode b_Ho_come 21 = .ok (.ifCond .eq 7, 3) := by decide +kernel
theorem d_Ho_come_24 : decode b_Ho_come 24 = .ok (.iconst 1, 1) := by decide +kernel
theorem d_Ho_come_25 : decode b_Ho_come 25 = .ok (.goto 4, 3) := by decide +kernel
theorem d_Ho_come_28 : decode b_Ho_come 28 = .ok (.iconst 0, 1) := by decide +kernel
theorem d_Ho_come_29 : decode b_Ho_come 29 = .ok (.invokestatic 93, 3) := by decide +kernel
theorem d_Ho_come_32 : decode b_Ho_come 32 = .ok (.aload_n 0, 1) := by decide +kernel
theorem d_Ho_come_33 : decode b_Ho_come 33 = .ok (.invokevirtual 107, 3) := by decide +kernel
theorem d_Ho_come_36 : decode b_Ho_come 36 = .ok (.aload_n 0, 1) := by decide +kernel
theorem d_Ho_come_37 : decode b_Ho_come 37 = .ok (.iload_n 2, 1) := by decide +kernel
theorem d_Ho_come_38 : decode b_Ho_come 38 = .ok (.invokevirtual 205, 3) := by decide +kernel
theorem d_Ho_come_41 : decode b_Ho_come 41 = .ok (.ifCond .eq 22, 3) := by decide +kernel
theorem d_Ho_come_44 : decode b_Ho_come 44 = .ok (.aload_n 0, 1) := by decide +kernel
theorem d_Ho_come_45 : decode b_Ho_come 45 = .ok (.iload_n 1, 1) := by decide +kernel
theorem d_Ho_come_46 : decode b_Ho_come 46 = .ok (.iload_n 2, 1) := by decide +kernel
theorem d_Ho_come_47 : decode b_Ho_come 47 = .ok (.ldc 152, 2) := by decide +kernel
theorem d_Ho_come_49 : decode b_Ho_come 49 = .ok (.if_icmp .ne 7, 3) := by decide +kernel
theorem d_Ho_come_52 : decode b_Ho_come 52 = .ok (.iconst 1, 1) := by decide +kernel
theorem d_Ho_come_53 : decode b_Ho_come 53 = .ok (.goto 4, 3) := by decide +kernel
theorem d_Ho_come_56 : decode b_Ho_come 56 = .ok (.iconst 0, 1) := by decide +kernel
theorem d_Ho_come_57 : decode b_Ho_come 57 = .ok (.invokevirtual 208, 3) := by decide +kernel
theorem d_Ho_come_60 : decode b_Ho_come 60 = .ok (.goto 4, 3) := by decide +kernel
theorem d_Ho_come_63 : decode b_Ho_come 63 = .ok (.iconst 0, 1) := by decide +kernel
theorem d_Ho_come_64 : decode b_Ho_come 64 = .ok (.istore_n 3, 1) := by decide +kernel
theorem d_Ho_come_65 : decode b_Ho_come 65 = .ok (.aload_n 0, 1) := by decide +kernel
theorem d_Ho_come_66 : decode b_Ho_come 66 = .ok (.getfield 48, 3) := by decide +kernel
theorem d_Ho_come_69 : decode b_Ho_come 69 = .ok (.invokevirtual 212, 3) := by decide +kernel
theorem d_Ho_come_72 : decode b_Ho_come 72 = .ok (.iload_n 3, 1) := by decide +kernel
theorem d_Ho_come_73 : decode b_Ho_come 73 = .ok (.ireturn, 1) := by decide +kernel
theorem d_Ho_isForHost_0 : decode b_Ho_isForHost 0 = .ok (.iload_n 1, 1) := by decide +kernel
theorem d_Ho_isForHost_1 : decode b_Ho_isForHost 1 = .ok (.ldc 152, 2) := by decide +kernel
theorem d_Ho_isForHost_3 : decode b_Ho_isForHost 3 = .ok (.if_icmp .ne 5, 3) := by decide +kernel
theorem d_Ho_isForHost_6 : decode b_Ho_isForHost 6 = .ok (.iconst 1, 1) := by decide +kernel
theorem d_Ho_isForHost_7 : decode b_Ho_isForHost 7 = .ok (.ireturn, 1) := by decide +kernel
theorem d_Ho_isForHost_8 : decode b_Ho_isForHost 8 = .ok (.aload_n 0, 1) := by decide +kernel
theorem d_Ho_isForHost_9 : decode b_Ho_isForHost 9 = .ok (.getfield 19, 3) := by decide +kernel
theorem d_Ho_isForHost_12 : decode b_Ho_isForHost 12 = .ok (.iload_n 1, 1) := by decide +kernel
theorem d_Ho_isForHost_13 : decode b_Ho_isForHost 13 = .ok (.invokevirtual 142, 3) := by decide +kernel
theorem d_Ho_isForHost_16 : decode b_Ho_isForHost 16 = .ok (.astore_n 2, 1) := by decide +kernel
theorem d_Ho_isForHost_17 : decode b_Ho_isForHost 17 = .ok (.aload_n 2, 1) := by decide +kernel
theorem d_Ho_isForHost_18 : decode b_Ho_isForHost 18 = .ok (.ifnull 14, 3) := by decide +kernel
theorem d_Ho_isForHost_21 : decode b_Ho_isForHost 21 = .ok (.aload_n 2, 1) := by decide +kernel
theorem d_Ho_isForHost_22 : decode b_Ho_isForHost 22 = .ok (.invokevirtual 146, 3) := by decide +kernel
theorem d_Ho_isForHost_25 : decode b_Ho_isForHost 25 = .ok (.ifCond .eq 7, 3) := by decide +kernel
theorem d_Ho_isForHost_28 : decode b_Ho_isForHost 28 = .ok (.iconst 1, 1) := by decide +kernel
theorem d_Ho_isForHost_29 : decode b_Ho_isForHost 29 = .ok (.goto 4, 3) := by decide +kernel
theorem d_Ho_isForHost_32 : decode b_Ho_isForHost 32 = .ok (.iconst 0, 1) := by decide +kernel
theorem d_Ho_isForHost_33 : decode b_Ho_isForHost 33 = .ok (.ireturn, 1) := by decide +kernel
theorem d_Ho_lookAtHeaders_0 : decode b_Ho_lookAtHeaders 0 = .ok (.iconst 0, 1) := by decide +kernel
theorem d_Ho_lookAtHeaders_1 : decode b_Ho_lookAtHeaders 1 = .ok (.istore_n 3, 1) := by decide +kernel
theorem d_Ho_lookAtHeaders_2 : decode b_Ho_lookAtHeaders 2 = .ok (.iload_n 3, 1) := by decide +kernel
theorem d_Ho_lookAtHeaders_3 : decode b_Ho_lookAtHeaders 3 = .ok (.aload_n 0, 1) := by decide +kernel
theorem d_Ho_lookAtHeaders_4 : decode b_Ho_lookAtHeaders 4 = .ok (.getfield 48, 3) := by decide +kernel
theorem d_Ho_lookAtHeaders_7 : decode b_Ho_lookAtHeaders 7 = .ok (.getfield 202, 3) := by decide +kernel
theorem d_Ho_lookAtHeaders_10 : decode b_Ho_lookAtHeaders 10 = .ok (.if_icmp .ge 23, 3) := by decide +kernel
theorem d_Ho_lookAtHeaders_13 : decode b_Ho_lookAtHeaders 13 = .ok (.aload_n 0, 1) := by decide +kernel
theorem d_Ho_lookAtHeaders_14 : decode b_Ho_lookAtHeaders 14 = .ok (.iload_n 3, 1) := by decide +kernel
theorem d_Ho_lookAtHeaders_15 : decode b_Ho_lookAtHeaders 15 = .ok (.iload_n 1, 1) := by decide +kernel
theorem d_Ho_lookAtHeaders_16 : decode b_Ho_lookAtHeaders 16 = .ok (.iload_n 2, 1) := by decide +kernel
theorem d_Ho_lookAtHeaders_17 : decode b_Ho_lookAtHeaders 17 = .ok (.invokevirtual 350, 3) := by decide +kernel
theorem d_Ho_lookAtHeaders_20 : decode b_Ho_lookAtHeaders 20 = .ok (.ifCond .ne 7, 3) := by decide +kernel
theorem d_Ho_lookAtHeaders_23 : decode b_Ho_lookAtHeaders 23 = .ok (.iload_n 3, 1) := by decide +kernel
theorem d_Ho_lookAtHeaders_24 : decode b_Ho_lookAtHeaders 24 = .ok (.iconst 1, 1) := by decide +kernel
theorem d_Ho_lookAtHeaders_25 : decode b_Ho_lookAtHeaders 25 = .ok (.iadd, 1) := by decide +kernel
theorem d_Ho_lookAtHeaders_26 : decode b_Ho_lookAtHeaders 26 = .ok (.ireturn, 1) := by decide +kernel
theorem d_Ho_lookAtHeaders_27 : decode b_Ho_lookAtHeaders 27 = .ok (.iinc 3 1, 3) := by decide +kernel
theorem d_Ho_lookAtHeaders_30 : decode b_Ho_lookAtHeaders 30 = .ok (.goto (-28), 3) := by decide +kernel
theorem d_Ho_lookAtHeaders_33 : decode b_Ho_lookAtHeaders 33 = .ok (.aload_n 0, 1) := by decide +kernel
theorem d_Ho_lookAtHeaders_34 : decode b_Ho_lookAtHeaders 34 = .ok (.getfield 48, 3) := by decide +kernel
theorem d_Ho_lookAtHeaders_37 : decode b_Ho_lookAtHeaders 37 = .ok (.getfield 202, 3) := by decide +kernel
theorem d_Ho_lookAtHeaders_40 : decode b_Ho_lookAtHeaders 40 = .ok (.ireturn, 1) := by decide +kernel
theorem d_Ho_goesOn_0 : decode b_Ho_goesOn 0 = .ok (.aload_n 0, 1) := by decide +kernel
theorem d_Ho_goesOn_1 : decode b_Ho_goesOn 1 = .ok (.getfield 48, 3) := by decide +kernel
theorem d_Ho_goesOn_4 : decode b_Ho_goesOn 4 = .ok (.getfield 354, 3) := by decide +kernel
theorem d_Ho_goesOn_7 : decode b_Ho_goesOn 7 = .ok (.iload_n 1, 1) := by decide +kernel
theorem d_Ho_goesOn_8 : decode b_Ho_goesOn 8 = .ok (.iaload, 1) := by decide +kernel
theorem d_Ho_goesOn_9 : decode b_Ho_goesOn 9 = .ok (.istore 4, 2) := by decide +kernel
theorem d_Ho_goesOn_11 : decode b_Ho_goesOn 11 = .ok (.aload_n 0, 1) := by decide +kernel
theorem d_Ho_goesOn_12 : decode b_Ho_goesOn 12 = .ok (.getfield 48, 3) := by decide +kernel
theorem d_Ho_goesOn_15 : decode b_Ho_goesOn 15 = .ok (.getfield 355, 3) := by decide +kernel
theorem d_Ho_goesOn_18 : decode b_Ho_goesOn 18 = .ok (.iload_n 1, 1) := by decide +kernel
theorem d_Ho_goesOn_19 : decode b_Ho_goesOn 19 = .ok (.iaload, 1) := by decide +kernel
theorem d_Ho_goesOn_20 : decode b_Ho_goesOn 20 = .ok (.istore 5, 2) := by decide +kernel
theorem d_Ho_goesOn_22 : decode b_Ho_goesOn 22 = .ok (.iload 4, 2) := by decide +kernel
theorem d_Ho_goesOn_24 : decode b_Ho_goesOn 24 = .ok (.ifCond .ne 11, 3) := by decide +kernel
theorem d_Ho_goesOn_27 : decode b_Ho_goesOn 27 = .ok (.iload_n 1, 1) := by decide +kernel
theorem d_Ho_goesOn_28 : decode b_Ho_goesOn 28 = .ok (.ifCond .ne 7, 3) := by decide +kernel
theorem d_Ho_goesOn_31 : decode b_Ho_goesOn 31 = .ok (.iconst 1, 1) := by decide +kernel
theorem d_Ho_goesOn_32 : decode b_Ho_goesOn 32 = .ok (.goto 5, 3) := by decide +kernel
theorem d_Ho_goesOn_35 : decode b_Ho_goesOn 35 = .ok (.iload 4, 2) := by decide +kernel
theorem d_Ho_goesOn_37 : decode b_Ho_goesOn 37 = .ok (.tableswitch 140 1 6 #[39, 74, 98, 109, 111, 128], 39) := by decide +kernel
theorem d_Ho_goesOn_76 : decode b_Ho_goesOn 76 = .ok (.iload 5, 2) := by decide +kernel
theorem d_Ho_goesOn_78 : decode b_Ho_goesOn 78 = .ok (.iconst 2, 1) := by decide +kernel
theorem d_Ho_goesOn_79 : decode b_Ho_goesOn 79 = .ok (.if_icmp .eq 13, 3) := by decide +kernel
theorem d_Ho_goesOn_82 : decode b_Ho_goesOn 82 = .ok (.iload 5, 2) := by decide +kernel
theorem d_Ho_goesOn_84 : decode b_Ho_goesOn 84 = .ok (.iconst 3, 1) := by decide +kernel
theorem d_Ho_goesOn_85 : decode b_Ho_goesOn 85 = .ok (.if_icmp .ne 15, 3) := by decide +kernel
theorem d_Ho_goesOn_88 : decode b_Ho_goesOn 88 = .ok (.iload_n 3, 1) := by decide +kernel
theorem d_Ho_goesOn_89 : decode b_Ho_goesOn 89 = .ok (.ifCond .ne 11, 3) := by decide +kernel
theorem d_Ho_goesOn_92 : decode b_Ho_goesOn 92 = .ok (.aload_n 0, 1) := by decide +kernel
theorem d_Ho_goesOn_93 : decode b_Ho_goesOn 93 = .ok (.iload_n 1, 1) := by decide +kernel
theorem d_Ho_goesOn_94 : decode b_Ho_goesOn 94 = .ok (.iconst 2, 1) := by decide +kernel
theorem d_Ho_goesOn_95 : decode b_Ho_goesOn 95 = .ok (.iload_n 2, 1) := by decide +kernel
theorem d_Ho_goesOn_96 : decode b_Ho_goesOn 96 = .ok (.iload_n 3, 1) := by decide +kernel
theorem d_Ho_goesOn_97 : decode b_Ho_goesOn 97 = .ok (.invokevirtual 358, 3) := by decide +kernel
theorem d_Ho_goesOn_100 : decode b_Ho_goesOn 100 = .ok (.iload 5, 2) := by decide +kernel
theorem d_Ho_goesOn_102 : decode b_Ho_goesOn 102 = .ok (.ifCond .ne 7, 3) := by decide +kernel
theorem d_Ho_goesOn_105 : decode b_Ho_goesOn 105 = .ok (.iconst 1, 1) := by decide +kernel
theorem d_Ho_goesOn_106 : decode b_Ho_goesOn 106 = .ok (.goto 4, 3) := by decide +kernel
theorem d_Ho_goesOn_109 : decode b_Ho_goesOn 109 = .ok (.iconst 0, 1) := by decide +kernel
theorem d_Ho_goesOn_110 : decode b_Ho_goesOn 110 = .ok (.ireturn, 1) := by decide +kernel
theorem d_Ho_goesOn_111 : decode b_Ho_goesOn 111 = .ok (.iload 5, 2) := by decide +kernel
theorem d_Ho_goesOn_113 : decode b_Ho_goesOn 113 = .ok (.ifCond .eq 11, 3) := by decide +kernel
theorem d_Ho_goesOn_116 : decode b_Ho_goesOn 116 = .ok (.aload_n 0, 1) := by decide +kernel
theorem d_Ho_goesOn_117 : decode b_Ho_goesOn 117 = .ok (.iload_n 1, 1) := by decide +kernel
theorem d_Ho_goesOn_118 : decode b_Ho_goesOn 118 = .ok (.iconst 0, 1) := by decide +kernel
theorem d_Ho_goesOn_119 : decode b_Ho_goesOn 119 = .ok (.iload_n 2, 1) := by decide +kernel
theorem d_Ho_goesOn_120 : decode b_Ho_goesOn 120 = .ok (.iload_n 3, 1) := by decide +kernel
theorem d_Ho_goesOn_121 : decode b_Ho_goesOn 121 = .ok (.invokevirtual 358, 3) := by decide +kernel
theorem d_Ho_goesOn_124 : decode b_Ho_goesOn 124 = .ok (.iload 5, 2) := by decide +kernel
theorem d_Ho_goesOn_126 : decode b_Ho_goesOn 126 = .ok (.ifCond .ne 7, 3) := by decide +kernel
theorem d_Ho_goesOn_129 : decode b_Ho_goesOn 129 = .ok (.iconst 1, 1) := by decide +kernel
theorem d_Ho_goesOn_130 : decode b_Ho_goesOn 130 = .ok (.goto 4, 3) := by decide +kernel
theorem d_Ho_goesOn_133 : decode b_Ho_goesOn 133 = .ok (.iconst 0, 1) := by decide +kernel
theorem d_Ho_goesOn_134 : decode b_Ho_goesOn 134 = .ok (.ireturn, 1) := by decide +kernel
theorem d_Ho_goesOn_135 : decode b_Ho_goesOn 135 = .ok (.iload 5, 2) := by decide +kernel
theorem d_Ho_goesOn_137 : decode b_Ho_goesOn 137 = .ok (.ifCond .ne 7, 3) := by decide +kernel
theorem d_Ho_goesOn_140 : decode b_Ho_goesOn 140 = .ok (.iconst 1, 1) := by decide +kernel
theorem d_Ho_goesOn_141 : decode b_Ho_goesOn 141 = .ok (.goto 4, 3) := by decide +kernel
theorem d_Ho_goesOn_144 : decode b_Ho_goesOn 144 = .ok (.iconst 0, 1) := by decide +kernel
theorem d_Ho_goesOn_145 : decode b_Ho_goesOn 145 = .ok (.ireturn, 1) := by decide +kernel
theorem d_Ho_goesOn_146 : decode b_Ho_goesOn 146 = .ok (.iconst 0, 1) := by decide +kernel
theorem d_Ho_goesOn_147 : decode b_Ho_goesOn 147 = .ok (.ireturn, 1) := by decide +kernel
theorem d_Ho_goesOn_148 : decode b_Ho_goesOn 148 = .ok (.iload_n 2, 1) := by decide +kernel
theorem d_Ho_goesOn_149 : decode b_Ho_goesOn 149 = .ok (.ifCond .eq 14, 3) := by decide +kernel
theorem d_Ho_goesOn_152 : decode b_Ho_goesOn 152 = .ok (.aload_n 0, 1) := by decide +kernel
theorem d_Ho_goesOn_153 : decode b_Ho_goesOn 153 = .ok (.getfield 10, 3) := by decide +kernel
theorem d_Ho_goesOn_156 : decode b_Ho_goesOn 156 = .ok (.iconst 5, 1) := by decide +kernel
theorem d_Ho_goesOn_157 : decode b_Ho_goesOn 157 = .ok (.iload_n 2, 1) := by decide +kernel
theorem d_Ho_goesOn_158 : decode b_Ho_goesOn 158 = .ok (.iload 5, 2) := by decide +kernel
theorem d_Ho_goesOn_160 : decode b_Ho_goesOn 160 = .ok (.invokevirtual 153, 3) := by decide +kernel
theorem d_Ho_goesOn_163 : decode b_Ho_goesOn 163 = .ok (.iconst 0, 1) := by decide +kernel
theorem d_Ho_goesOn_164 : decode b_Ho_goesOn 164 = .ok (.ireturn, 1) := by decide +kernel
theorem d_Ho_goesOn_165 : decode b_Ho_goesOn 165 = .ok (.aload_n 0, 1) := by decide +kernel
theorem d_Ho_goesOn_166 : decode b_Ho_goesOn 166 = .ok (.dup, 1) := by decide +kernel
theorem d_Ho_goesOn_167 : decode b_Ho_goesOn 167 = .ok (.getfield 62, 3) := by decide +kernel
theorem d_Ho_goesOn_170 : decode b_Ho_goesOn 170 = .ok (.iconst 1, 1) := by decide +kernel
theorem d_Ho_goesOn_171 : decode b_Ho_goesOn 171 = .ok (.iadd, 1) := by decide +kernel
theorem d_Ho_goesOn_172 : decode b_Ho_goesOn 172 = .ok (.putfield 62, 3) := by decide +kernel
theorem d_Ho_goesOn_175 : decode b_Ho_goesOn 175 = .ok (.iconst 0, 1) := by decide +kernel
theorem d_Ho_goesOn_176 : decode b_Ho_goesOn 176 = .ok (.ireturn, 1) := by decide +kernel
theorem d_Ho_goesOn_177 : decode b_Ho_goesOn 177 = .ok (.aload_n 0, 1) := by decide +kernel
theorem d_Ho_goesOn_178 : decode b_Ho_goesOn 178 = .ok (.iload_n 1, 1) := by decide +kernel
theorem d_Ho_goesOn_179 : decode b_Ho_goesOn 179 = .ok (.iconst 1, 1) := by decide +kernel
theorem d_Ho_goesOn_180 : decode b_Ho_goesOn 180 = .ok (.iload_n 2, 1) := by decide +kernel
theorem d_Ho_goesOn_181 : decode b_Ho_goesOn 181 = .ok (.iload_n 3, 1) := by decide +kernel
theorem d_Ho_goesOn_182 : decode b_Ho_goesOn 182 = .ok (.invokevirtual 358, 3) := by decide +kernel
theorem d_Ho_goesOn_185 : decode b_Ho_goesOn 185 = .ok (.iconst 0, 1) := by decide +kernel
theorem d_Ho_goesOn_186 : decode b_Ho_goesOn 186 = .ok (.ireturn, 1) := by decide +kernel
theorem d_Ho_answerFault_0 : decode b_Ho_answerFault 0 = .ok (.iload 4, 2) := by decide +kernel
theorem d_Ho_answerFault_2 : decode b_Ho_answerFault 2 = .ok (.ifCond .eq 8, 3) := by decide +kernel
theorem d_Ho_answerFault_5 : decode b_Ho_answerFault 5 = .ok (.iload_n 2, 1) := by decide +kernel
theorem d_Ho_answerFault_6 : decode b_Ho_answerFault 6 = .ok (.iconst 2, 1) := by decide +kernel
theorem d_Ho_answerFault_7 : decode b_Ho_answerFault 7 = .ok (.if_icmp .ne 7, 3) := by decide +kernel
theorem d_Ho_answerFault_10 : decode b_Ho_answerFault 10 = .ok (.iconst 1, 1) := by decide +kernel
theorem d_Ho_answerFault_11 : decode b_Ho_answerFault 11 = .ok (.goto 4, 3) := by decide +kernel
theorem d_Ho_answerFault_14 : decode b_Ho_answerFault 14 = .ok (.iconst 0, 1) := by decide +kernel
theorem d_Ho_answerFault_15 : decode b_Ho_answerFault 15 = .ok (.istore 5, 2) := by decide +kernel
theorem d_Ho_answerFault_17 : decode b_Ho_answerFault 17 = .ok (.iload 5, 2) := by decide +kernel
theorem d_Ho_answerFault_19 : decode b_Ho_answerFault 19 = .ok (.ifCond .eq 40, 3) := by decide +kernel
theorem d_Ho_answerFault_22 : decode b_Ho_answerFault 22 = .ok (.iload_n 3, 1) := by decide +kernel
theorem d_Ho_answerFault_23 : decode b_Ho_answerFault 23 = .ok (.ifCond .eq 36, 3) := by decide +kernel
theorem d_Ho_answerFault_26 : decode b_Ho_answerFault 26 = .ok (.aload_n 0, 1) := by decide +kernel
theorem d_Ho_answerFault_27 : decode b_Ho_answerFault 27 = .ok (.getfield 65, 3) := by decide +kernel
theorem d_Ho_answerFault_30 : decode b_Ho_answerFault 30 = .ok (.ifCond .le 29, 3) := by decide +kernel
theorem d_Ho_answerFault_33 : decode b_Ho_answerFault 33 = .ok (.aload_n 0, 1) := by decide +kernel
theorem d_Ho_answerFault_34 : decode b_Ho_answerFault 34 = .ok (.dup, 1) := by decide +kernel
theorem d_Ho_answerFault_35 : decode b_Ho_answerFault 35 = .ok (.getfield 65, 3) := by decide +kernel
theorem d_Ho_answerFault_38 : decode b_Ho_answerFault 38 = .ok (.iconst 1, 1) := by decide +kernel
theorem d_Ho_answerFault_39 : decode b_Ho_answerFault 39 = .ok (.isub, 1) := by decide +kernel
theorem d_Ho_answerFault_40 : decode b_Ho_answerFault 40 = .ok (.putfield 65, 3) := by decide +kernel
theorem d_Ho_answerFault_43 : decode b_Ho_answerFault 43 = .ok (.aload_n 0, 1) := by decide +kernel
theorem d_Ho_answerFault_44 : decode b_Ho_answerFault 44 = .ok (.getfield 10, 3) := by decide +kernel
theorem d_Ho_answerFault_47 : decode b_Ho_answerFault 47 = .ok (.bipush 6, 2) := by decide +kernel
theorem d_Ho_answerFault_49 : decode b_Ho_answerFault 49 = .ok (.iload_n 3, 1) := by decide +kernel
theorem d_Ho_answerFault_50 : decode b_Ho_answerFault 50 = .ok (.bipush 16, 2) := by decide +kernel
theorem d_Ho_answerFault_52 : decode b_Ho_answerFault 52 = .ok (.iload_n 1, 1) := by decide +kernel
theorem d_Ho_answerFault_53 : decode b_Ho_answerFault 53 = .ok (.imul, 1) := by decide +kernel
theorem d_Ho_answerFault_54 : decode b_Ho_answerFault 54 = .ok (.iload_n 2, 1) := by decide +kernel
theorem d_Ho_answerFault_55 : decode b_Ho_answerFault 55 = .ok (.iadd, 1) := by decide +kernel
theorem d_Ho_answerFault_56 : decode b_Ho_answerFault 56 = .ok (.invokevirtual 153, 3) := by decide +kernel
theorem d_Ho_answerFault_59 : decode b_Ho_answerFault 59 = .ok (.return_, 1) := by decide +kernel
theorem d_Hd_clear_0 : decode b_Hd_clear 0 = .ok (.aload_n 0, 1) := by decide +kernel
theorem d_Hd_clear_1 : decode b_Hd_clear 1 = .ok (.iconst 0, 1) := by decide +kernel
theorem d_Hd_clear_2 : decode b_Hd_clear 2 = .ok (.putfield 18, 3) := by decide +kernel
theorem d_Hd_clear_5 : decode b_Hd_clear 5 = .ok (.return_, 1) := by decide +kernel
theorem d_La_count_0 : decode b_La_count 0 = .ok (.aload_n 2, 1) := by decide +kernel
theorem d_La_count_1 : decode b_La_count 1 = .ok (.iconst 0, 1) := by decide +kernel
theorem d_La_count_2 : decode b_La_count 2 = .ok (.aload_n 0, 1) := by decide +kernel
theorem d_La_count_3 : decode b_La_count 3 = .ok (.iload_n 1, 1) := by decide +kernel
theorem d_La_count_4 : decode b_La_count 4 = .ok (.invokevirtual 45, 3) := by decide +kernel
theorem d_La_count_7 : decode b_La_count 7 = .ok (.i2l, 1) := by decide +kernel
theorem d_La_count_8 : decode b_La_count 8 = .ok (.lastore, 1) := by decide +kernel
theorem d_La_count_9 : decode b_La_count 9 = .ok (.goto 6, 3) := by decide +kernel
theorem d_La_count_12 : decode b_La_count 12 = .ok (.astore_n 3, 1) := by decide +kernel
theorem d_La_count_13 : decode b_La_count 13 = .ok (.iconst 1, 1) := by decide +kernel
theorem d_La_count_14 : decode b_La_count 14 = .ok (.ireturn, 1) := by decide +kernel
theorem d_La_count_15 : decode b_La_count 15 = .ok (.iconst 0, 1) := by decide +kernel
theorem d_La_count_16 : decode b_La_count 16 = .ok (.ireturn, 1) := by decide +kernel
theorem d_Ho_count_0 : decode b_Ho_count 0 = .ok (.iload_n 1, 1) := by decide +kernel
theorem d_Ho_count_1 : decode b_Ho_count 1 = .ok (.iconst 0, 1) := by decide +kernel
theorem d_Ho_count_2 : decode b_Ho_count 2 = .ok (.bipush 11, 2) := by decide +kernel
theorem d_Ho_count_4 : decode b_Ho_count 4 = .ok (.invokestatic 89, 3) := by decide +kernel
theorem d_Ho_count_7 : decode b_Ho_count 7 = .ok (.invokestatic 93, 3) := by decide +kernel
theorem d_Ho_count_10 : decode b_Ho_count 10 = .ok (.iload_n 1, 1) := by decide +kernel
theorem d_Ho_count_11 : decode b_Ho_count 11 = .ok (.tableswitch 130 0 10 #[57, 62, 70, 78, 86, 94, 102, 110, 115, 120, 125], 57) := by decide +kernel
theorem d_Ho_count_68 : decode b_Ho_count 68 = .ok (.aload_n 0, 1) := by decide +kernel
theorem d_Ho_count_69 : decode b_Ho_count 69 = .ok (.getfield 52, 3) := by decide +kernel
theorem d_Ho_count_72 : decode b_Ho_count 72 = .ok (.ireturn, 1) := by decide +kernel
theorem d_Ho_count_73 : decode b_Ho_count 73 = .ok (.aload_n 0, 1) := by decide +kernel
theorem d_Ho_count_74 : decode b_Ho_count 74 = .ok (.getfield 19, 3) := by decide +kernel
theorem d_Ho_count_77 : decode b_Ho_count 77 = .ok (.invokevirtual 215, 3) := by decide +kernel
theorem d_Ho_count_80 : decode b_Ho_count 80 = .ok (.ireturn, 1) := by decide +kernel
theorem d_Ho_count_81 : decode b_Ho_count 81 = .ok (.aload_n 0, 1) := by decide +kernel
theorem d_Ho_count_82 : decode b_Ho_count 82 = .ok (.getfield 35, 3) := by decide +kernel
theorem d_Ho_count_85 : decode b_Ho_count 85 = .ok (.invokevirtual 218, 3) := by decide +kernel
theorem d_Ho_count_88 : decode b_Ho_count 88 = .ok (.ireturn, 1) := by decide +kernel
theorem d_Ho_count_89 : decode b_Ho_count 89 = .ok (.aload_n 0, 1) := by decide +kernel
theorem d_Ho_count_90 : decode b_Ho_count 90 = .ok (.getfield 39, 3) := by decide +kernel
theorem d_Ho_count_93 : decode b_Ho_count 93 = .ok (.invokevirtual 218, 3) := by decide +kernel
theorem d_Ho_count_96 : decode b_Ho_count 96 = .ok (.ireturn, 1) := by decide +kernel
theorem d_Ho_count_97 : decode b_Ho_count 97 = .ok (.aload_n 0, 1) := by decide +kernel
theorem d_Ho_count_98 : decode b_Ho_count 98 = .ok (.getfield 26, 3) := by decide +kernel
theorem d_Ho_count_101 : decode b_Ho_count 101 = .ok (.invokevirtual 219, 3) := by decide +kernel
theorem d_Ho_count_104 : decode b_Ho_count 104 = .ok (.ireturn, 1) := by decide +kernel
theorem d_Ho_count_105 : decode b_Ho_count 105 = .ok (.aload_n 0, 1) := by decide +kernel
theorem d_Ho_count_106 : decode b_Ho_count 106 = .ok (.getfield 42, 3) := by decide +kernel
theorem d_Ho_count_109 : decode b_Ho_count 109 = .ok (.invokevirtual 218, 3) := by decide +kernel
theorem d_Ho_count_112 : decode b_Ho_count 112 = .ok (.ireturn, 1) := by decide +kernel
theorem d_Ho_count_113 : decode b_Ho_count 113 = .ok (.aload_n 0, 1) := by decide +kernel
theorem d_Ho_count_114 : decode b_Ho_count 114 = .ok (.getfield 10, 3) := by decide +kernel
theorem d_Ho_count_117 : decode b_Ho_count 117 = .ok (.getfield 220, 3) := by decide +kernel
theorem d_Ho_count_120 : decode b_Ho_count 120 = .ok (.ireturn, 1) := by decide +kernel
theorem d_Ho_count_121 : decode b_Ho_count 121 = .ok (.aload_n 0, 1) := by decide +kernel
theorem d_Ho_count_122 : decode b_Ho_count 122 = .ok (.getfield 59, 3) := by decide +kernel
theorem d_Ho_count_125 : decode b_Ho_count 125 = .ok (.ireturn, 1) := by decide +kernel
theorem d_Ho_count_126 : decode b_Ho_count 126 = .ok (.aload_n 0, 1) := by decide +kernel
theorem d_Ho_count_127 : decode b_Ho_count 127 = .ok (.getfield 62, 3) := by decide +kernel
theorem d_Ho_count_130 : decode b_Ho_count 130 = .ok (.ireturn, 1) := by decide +kernel
theorem d_Ho_count_131 : decode b_Ho_count 131 = .ok (.aload_n 0, 1) := by decide +kernel
theorem d_Ho_count_132 : decode b_Ho_count 132 = .ok (.getfield 65, 3) := by decide +kernel
theorem d_Ho_count_135 : decode b_Ho_count 135 = .ok (.ireturn, 1) := by decide +kernel
theorem d_Ho_count_136 : decode b_Ho_count 136 = .ok (.aload_n 0, 1) := by decide +kernel
theorem d_Ho_count_137 : decode b_Ho_count 137 = .ok (.getfield 56, 3) := by decide +kernel
theorem d_Ho_count_140 : decode b_Ho_count 140 = .ok (.ireturn, 1) := by decide +kernel
theorem d_Ho_count_141 : decode b_Ho_count 141 = .ok (.aload_n 0, 1) := by decide +kernel
theorem d_Ho_count_142 : decode b_Ho_count 142 = .ok (.getfield 68, 3) := by decide +kernel
theorem d_Ho_count_145 : decode b_Ho_count 145 = .ok (.ifCond .eq 7, 3) := by decide +kernel
theorem d_Ho_count_148 : decode b_Ho_count 148 = .ok (.iconst 1, 1) := by decide +kernel
theorem d_Ho_count_149 : decode b_Ho_count 149 = .ok (.goto 4, 3) := by decide +kernel
theorem d_Ho_count_152 : decode b_Ho_count 152 = .ok (.iconst 0, 1) := by decide +kernel
theorem d_Ho_count_153 : decode b_Ho_count 153 = .ok (.ireturn, 1) := by decide +kernel
theorem d_La_own_0 : decode b_La_own 0 = .ok (.aload_n 2, 1) := by decide +kernel
theorem d_La_own_1 : decode b_La_own 1 = .ok (.iconst 0, 1) := by decide +kernel
theorem d_La_own_2 : decode b_La_own 2 = .ok (.aload_n 0, 1) := by decide +kernel
theorem d_La_own_3 : decode b_La_own 3 = .ok (.iload_n 1, 1) := by decide +kernel
theorem d_La_own_4 : decode b_La_own 4 = .ok (.invokevirtual 49, 3) := by decide +kernel
theorem d_La_own_7 : decode b_La_own 7 = .ok (.i2l, 1) := by decide +kernel
theorem d_La_own_8 : decode b_La_own 8 = .ok (.lastore, 1) := by decide +kernel
theorem d_La_own_9 : decode b_La_own 9 = .ok (.goto 6, 3) := by decide +kernel
theorem d_La_own_12 : decode b_La_own 12 = .ok (.astore_n 3, 1) := by decide +kernel
theorem d_La_own_13 : decode b_La_own 13 = .ok (.iconst 1, 1) := by decide +kernel
theorem d_La_own_14 : decode b_La_own 14 = .ok (.ireturn, 1) := by decide +kernel
theorem d_La_own_15 : decode b_La_own 15 = .ok (.iconst 0, 1) := by decide +kernel
theorem d_La_own_16 : decode b_La_own 16 = .ok (.ireturn, 1) := by decide +kernel
theorem d_Ho_own_0 : decode b_Ho_own 0 = .ok (.iload_n 1, 1) := by decide +kernel
theorem d_Ho_own_1 : decode b_Ho_own 1 = .ok (.aload_n 0, 1) := by decide +kernel
theorem d_Ho_own_2 : decode b_Ho_own 2 = .ok (.getfield 19, 3) := by decide +kernel
theorem d_Ho_own_5 : decode b_Ho_own 5 = .ok (.invokevirtual 215, 3) := by decide +kernel
theorem d_Ho_own_8 : decode b_Ho_own 8 = .ok (.invokestatic 223, 3) := by decide +kernel
theorem d_Ho_own_11 : decode b_Ho_own 11 = .ok (.aload_n 0, 1) := by decide +kernel
theorem d_Ho_own_12 : decode b_Ho_own 12 = .ok (.getfield 19, 3) := by decide +kernel
theorem d_Ho_own_15 : decode b_Ho_own 15 = .ok (.iload_n 1, 1) := by decide +kernel
theorem d_Ho_own_16 : decode b_Ho_own 16 = .ok (.invokevirtual 226, 3) := by decide +kernel
theorem d_Ho_own_19 : decode b_Ho_own 19 = .ok (.astore_n 2, 1) := by decide +kernel
theorem d_Ho_own_20 : decode b_Ho_own 20 = .ok (.aload_n 2, 1) := by decide +kernel
theorem d_Ho_own_21 : decode b_Ho_own 21 = .ok (.getfield 229, 3) := by decide +kernel
theorem d_Ho_own_24 : decode b_Ho_own 24 = .ok (.ldc 232, 2) := by decide +kernel
theorem d_Ho_own_26 : decode b_Ho_own 26 = .ok (.aload_n 2, 1) := by decide +kernel
theorem d_Ho_own_27 : decode b_Ho_own 27 = .ok (.getfield 156, 3) := by decide +kernel
theorem d_Ho_own_30 : decode b_Ho_own 30 = .ok (.imul, 1) := by decide +kernel
theorem d_Ho_own_31 : decode b_Ho_own 31 = .ok (.iadd, 1) := by decide +kernel
theorem d_Ho_own_32 : decode b_Ho_own 32 = .ok (.ireturn, 1) := by decide +kernel
theorem d_Ho_requireIndex_0 : decode b_Ho_requireIndex 0 = .ok (.iload_n 0, 1) := by decide +kernel
theorem d_Ho_requireIndex_1 : decode b_Ho_requireIndex 1 = .ok (.ifCond .lt 8, 3) := by decide +kernel
theorem d_Ho_requireIndex_4 : decode b_Ho_requireIndex 4 = .ok (.iload_n 0, 1) := by decide +kernel
theorem d_Ho_requireIndex_5 : decode b_Ho_requireIndex 5 = .ok (.iload_n 1, 1) := by decide +kernel
theorem d_Ho_requireIndex_6 : decode b_Ho_requireIndex 6 = .ok (.if_icmp .lt 14, 3) := by decide +kernel
theorem d_Ho_requireIndex_9 : decode b_Ho_requireIndex 9 = .ok (.new 270, 3) := by decide +kernel
theorem d_Ho_requireIndex_12 : decode b_Ho_requireIndex 12 = .ok (.dup, 1) := by decide +kernel
theorem d_Ho_requireIndex_13 : decode b_Ho_requireIndex 13 = .ok (.ldc_w 272, 3) := by decide +kernel
theorem d_Ho_requireIndex_16 : decode b_Ho_requireIndex 16 = .ok (.invokespecial 274, 3) := by decide +kernel
theorem d_Ho_requireIndex_19 : decode b_Ho_requireIndex 19 = .ok (.athrow, 1) := by decide +kernel
theorem d_Ho_requireIndex_20 : decode b_Ho_requireIndex 20 = .ok (.return_, 1) := by decide +kernel
theorem d_La_until_0 : decode b_La_until 0 = .ok (.aload_n 2, 1) := by decide +kernel
theorem d_La_until_1 : decode b_La_until 1 = .ok (.iconst 0, 1) := by decide +kernel
theorem d_La_until_2 : decode b_La_until 2 = .ok (.aload_n 0, 1) := by decide +kernel
theorem d_La_until_3 : decode b_La_until 3 = .ok (.iload_n 1, 1) := by decide +kernel
theorem d_La_until_4 : decode b_La_until 4 = .ok (.invokevirtual 54, 3) := by decide +kernel
theorem d_La_until_7 : decode b_La_until 7 = .ok (.i2l, 1) := by decide +kernel
theorem d_La_until_8 : decode b_La_until 8 = .ok (.lastore, 1) := by decide +kernel
theorem d_La_until_9 : decode b_La_until 9 = .ok (.goto 6, 3) := by decide +kernel
theorem d_La_until_12 : decode b_La_until 12 = .ok (.astore_n 3, 1) := by decide +kernel
theorem d_La_until_13 : decode b_La_until 13 = .ok (.iconst 1, 1) := by decide +kernel
theorem d_La_until_14 : decode b_La_until 14 = .ok (.ireturn, 1) := by decide +kernel
theorem d_La_until_15 : decode b_La_until 15 = .ok (.iconst 0, 1) := by decide +kernel
theorem d_La_until_16 : decode b_La_until 16 = .ok (.ireturn, 1) := by decide +kernel
theorem d_Ho_until_0 : decode b_Ho_until 0 = .ok (.iload_n 1, 1) := by decide +kernel
theorem d_Ho_until_1 : decode b_Ho_until 1 = .ok (.aload_n 0, 1) := by decide +kernel
theorem d_Ho_until_2 : decode b_Ho_until 2 = .ok (.getfield 19, 3) := by decide +kernel
theorem d_Ho_until_5 : decode b_Ho_until 5 = .ok (.invokevirtual 215, 3) := by decide +kernel
theorem d_Ho_until_8 : decode b_Ho_until 8 = .ok (.invokestatic 223, 3) := by decide +kernel
theorem d_Ho_until_11 : decode b_Ho_until 11 = .ok (.aload_n 0, 1) := by decide +kernel
theorem d_Ho_until_12 : decode b_Ho_until 12 = .ok (.getfield 19, 3) := by decide +kernel
theorem d_Ho_until_15 : decode b_Ho_until 15 = .ok (.iload_n 1, 1) := by decide +kernel
theorem d_Ho_until_16 : decode b_Ho_until 16 = .ok (.invokevirtual 226, 3) := by decide +kernel
theorem d_Ho_until_19 : decode b_Ho_until 19 = .ok (.getfield 233, 3) := by decide +kernel
theorem d_Ho_until_22 : decode b_Ho_until 22 = .ok (.istore_n 2, 1) := by decide +kernel
theorem d_Ho_until_23 : decode b_Ho_until 23 = .ok (.iload_n 2, 1) := by decide +kernel
theorem d_Ho_until_24 : decode b_Ho_until 24 = .ok (.ldc 84, 2) := by decide +kernel
theorem d_Ho_until_26 : decode b_Ho_until 26 = .ok (.if_icmp .ne 7, 3) := by decide +kernel
theorem d_Ho_until_29 : decode b_Ho_until 29 = .ok (.iconst (-1), 1) := by decide +kernel
theorem d_Ho_until_30 : decode b_Ho_until 30 = .ok (.goto 4, 3) := by decide +kernel
theorem d_Ho_until_33 : decode b_Ho_until 33 = .ok (.iload_n 2, 1) := by decide +kernel
theorem d_Ho_until_34 : decode b_Ho_until 34 = .ok (.ireturn, 1) := by decide +kernel
theorem d_La_outKind_0 : decode b_La_outKind 0 = .ok (.aload_n 2, 1) := by decide +kernel
theorem d_La_outKind_1 : decode b_La_outKind 1 = .ok (.iconst 0, 1) := by decide +kernel
theorem d_La_outKind_2 : decode b_La_outKind 2 = .ok (.aload_n 0, 1) := by decide +kernel
theorem d_La_outKind_3 : decode b_La_outKind 3 = .ok (.iload_n 1, 1) := by decide +kernel
theorem d_La_outKind_4 : decode b_La_outKind 4 = .ok (.invokevirtual 57, 3) := by decide +kernel
theorem d_La_outKind_7 : decode b_La_outKind 7 = .ok (.i2l, 1) := by decide +kernel
theorem d_La_outKind_8 : decode b_La_outKind 8 = .ok (.lastore, 1) := by decide +kernel
theorem d_La_outKind_9 : decode b_La_outKind 9 = .ok (.goto 6, 3) := by decide +kernel
theorem d_La_outKind_12 : decode b_La_outKind 12 = .ok (.astore_n 3, 1) := by decide +kernel
theorem d_La_outKind_13 : decode b_La_outKind 13 = .ok (.iconst 1, 1) := by decide +kernel
theorem d_La_outKind_14 : decode b_La_outKind 14 = .ok (.ireturn, 1) := by decide +kernel
theorem d_La_outKind_15 : decode b_La_outKind 15 = .ok (.iconst 0, 1) := by decide +kernel
theorem d_La_outKind_16 : decode b_La_outKind 16 = .ok (.ireturn, 1) := by decide +kernel
theorem d_Ho_outKind_0 : decode b_Ho_outKind 0 = .ok (.iload_n 1, 1) := by decide +kernel
theorem d_Ho_outKind_1 : decode b_Ho_outKind 1 = .ok (.aload_n 0, 1) := by decide +kernel
theorem d_Ho_outKind_2 : decode b_Ho_outKind 2 = .ok (.getfield 10, 3) := by decide +kernel
theorem d_Ho_outKind_5 : decode b_Ho_outKind 5 = .ok (.getfield 251, 3) := by decide +kernel
theorem d_Ho_outKind_8 : decode b_Ho_outKind 8 = .ok (.invokestatic 223, 3) := by decide +kernel
theorem d_Ho_outKind_11 : decode b_Ho_outKind 11 = .ok (.aload_n 0, 1) := by decide +kernel
theorem d_Ho_outKind_12 : decode b_Ho_outKind 12 = .ok (.getfield 10, 3) := by decide +kernel
theorem d_Ho_outKind_15 : decode b_Ho_outKind 15 = .ok (.getfield 252, 3) := by decide +kernel
theorem d_Ho_outKind_18 : decode b_Ho_outKind 18 = .ok (.aload_n 0, 1) := by decide +kernel
theorem d_Ho_outKind_19 : decode b_Ho_outKind 19 = .ok (.getfield 10, 3) := by decide +kernel
theorem d_Ho_outKind_22 : decode b_Ho_outKind 22 = .ok (.iload_n 1, 1) := by decide +kernel
theorem d_Ho_outKind_23 : decode b_Ho_outKind 23 = .ok (.invokevirtual 256, 3) := by decide +kernel
theorem d_Ho_outKind_26 : decode b_Ho_outKind 26 = .ok (.iaload, 1) := by decide +kernel
theorem d_Ho_outKind_27 : decode b_Ho_outKind 27 = .ok (.ireturn, 1) := by decide +kernel
theorem d_Ou_slot_0 : decode b_Ou_slot 0 = .ok (.aload_n 0, 1) := by decide +kernel
theorem d_Ou_slot_1 : decode b_Ou_slot 1 = .ok (.getfield 21, 3) := by decide +kernel
theorem d_Ou_slot_4 : decode b_Ou_slot 4 = .ok (.iconst 1, 1) := by decide +kernel
theorem d_Ou_slot_5 : decode b_Ou_slot 5 = .ok (.isub, 1) := by decide +kernel
theorem d_Ou_slot_6 : decode b_Ou_slot 6 = .ok (.iload_n 1, 1) := by decide +kernel
theorem d_Ou_slot_7 : decode b_Ou_slot 7 = .ok (.isub, 1) := by decide +kernel
theorem d_Ou_slot_8 : decode b_Ou_slot 8 = .ok (.bipush 12, 2) := by decide +kernel
theorem d_Ou_slot_10 : decode b_Ou_slot 10 = .ok (.invokestatic 37, 3) := by decide +kernel
theorem d_Ou_slot_13 : decode b_Ou_slot 13 = .ok (.ireturn, 1) := by decide +kernel
theorem d_Ma_floorMod_0 : decode b_Ma_floorMod 0 = .ok (.iload_n 0, 1) := by decide +kernel
theorem d_Ma_floorMod_1 : decode b_Ma_floorMod 1 = .ok (.iload_n 1, 1) := by decide +kernel
theorem d_Ma_floorMod_2 : decode b_Ma_floorMod 2 = .ok (.irem, 1) := by decide +kernel
theorem d_Ma_floorMod_3 : decode b_Ma_floorMod 3 = .ok (.istore_n 2, 1) := by decide +kernel
theorem d_Ma_floorMod_4 : decode b_Ma_floorMod 4 = .ok (.iload_n 0, 1) := by decide +kernel
theorem d_Ma_floorMod_5 : decode b_Ma_floorMod 5 = .ok (.iload_n 1, 1) := by decide +kernel
theorem d_Ma_floorMod_6 : decode b_Ma_floorMod 6 = .ok (.ixor, 1) := by decide +kernel
theorem d_Ma_floorMod_7 : decode b_Ma_floorMod 7 = .ok (.ifCond .ge 11, 3) := by decide +kernel
theorem d_Ma_floorMod_10 : decode b_Ma_floorMod 10 = .ok (.iload_n 2, 1) := by decide +kernel
theorem d_Ma_floorMod_11 : decode b_Ma_floorMod 11 = .ok (.ifCond .eq 7, 3) := by decide +kernel
theorem d_Ma_floorMod_14 : decode b_Ma_floorMod 14 = .ok (.iload_n 2, 1) := by decide +kernel
theorem d_Ma_floorMod_15 : decode b_Ma_floorMod 15 = .ok (.iload_n 1, 1) := by decide +kernel
theorem d_Ma_floorMod_16 : decode b_Ma_floorMod 16 = .ok (.iadd, 1) := by decide +kernel
theorem d_Ma_floorMod_17 : decode b_Ma_floorMod 17 = .ok (.ireturn, 1) := by decide +kernel
theorem d_Ma_floorMod_18 : decode b_Ma_floorMod 18 = .ok (.iload_n 2, 1) := by decide +kernel
theorem d_Ma_floorMod_19 : decode b_Ma_floorMod 19 = .ok (.ireturn, 1) := by decide +kernel
theorem d_La_outTo_0 : decode b_La_outTo 0 = .ok (.aload_n 2, 1) := by decide +kernel
theorem d_La_outTo_1 : decode b_La_outTo 1 = .ok (.iconst 0, 1) := by decide +kernel
theorem d_La_outTo_2 : decode b_La_outTo 2 = .ok (.aload_n 0, 1) := by decide +kernel
theorem d_La_outTo_3 : decode b_La_outTo 3 = .ok (.iload_n 1, 1) := by decide +kernel
theorem d_La_outTo_4 : decode b_La_outTo 4 = .ok (.invokevirtual 60, 3) := by decide +kernel
theorem d_La_outTo_7 : decode b_La_outTo 7 = .ok (.i2l, 1) := by decide +kernel
theorem d_La_outTo_8 : decode b_La_outTo 8 = .ok (.lastore, 1) := by decide +kernel
theorem d_La_outTo_9 : decode b_La_outTo 9 = .ok (.goto 6, 3) := by decide +kernel
theorem d_La_outTo_12 : decode b_La_outTo 12 = .ok (.astore_n 3, 1) := by decide +kernel
theorem d_La_outTo_13 : decode b_La_outTo 13 = .ok (.iconst 1, 1) := by decide +kernel
theorem d_La_outTo_14 : decode b_La_outTo 14 = .ok (.ireturn, 1) := by decide +kernel
theorem d_La_outTo_15 : decode b_La_outTo 15 = .ok (.iconst 0, 1) := by decide +kernel
theorem d_La_outTo_16 : decode b_La_outTo 16 = .ok (.ireturn, 1) := by decide +kernel
theorem d_Ho_outTo_0 : decode b_Ho_outTo 0 = .ok (.iload_n 1, 1) := by decide +kernel
theorem d_Ho_outTo_1 : decode b_Ho_outTo 1 = .ok (.aload_n 0, 1) := by decide +kernel
theorem d_Ho_outTo_2 : decode b_Ho_outTo 2 = .ok (.getfield 10, 3) := by decide +kernel
theorem d_Ho_outTo_5 : decode b_Ho_outTo 5 = .ok (.getfield 251, 3) := by decide +kernel
theorem d_Ho_outTo_8 : decode b_Ho_outTo 8 = .ok (.invokestatic 223, 3) := by decide +kernel
theorem d_Ho_outTo_11 : decode b_Ho_outTo 11 = .ok (.aload_n 0, 1) := by decide +kernel
theorem d_Ho_outTo_12 : decode b_Ho_outTo 12 = .ok (.getfield 10, 3) := by decide +kernel
theorem d_Ho_outTo_15 : decode b_Ho_outTo 15 = .ok (.getfield 259, 3) := by decide +kernel
theorem d_Ho_outTo_18 : decode b_Ho_outTo 18 = .ok (.aload_n 0, 1) := by decide +kernel
theorem d_Ho_outTo_19 : decode b_Ho_outTo 19 = .ok (.getfield 10, 3) := by decide +kernel
theorem d_Ho_outTo_22 : decode b_Ho_outTo 22 = .ok (.iload_n 1, 1) := by decide +kernel
theorem d_Ho_outTo_23 : decode b_Ho_outTo 23 = .ok (.invokevirtual 256, 3) := by decide +kernel
theorem d_Ho_outTo_26 : decode b_Ho_outTo 26 = .ok (.iaload, 1) := by decide +kernel
theorem d_Ho_outTo_27 : decode b_Ho_outTo 27 = .ok (.ireturn, 1) := by decide +kernel
theorem d_La_outX_0 : decode b_La_outX 0 = .ok (.aload_n 2, 1) := by decide +kernel
theorem d_La_outX_1 : decode b_La_outX 1 = .ok (.iconst 0, 1) := by decide +kernel
theorem d_La_outX_2 : decode b_La_outX 2 = .ok (.aload_n 0, 1) := by decide +kernel
theorem d_La_outX_3 : decode b_La_outX 3 = .ok (.iload_n 1, 1) := by decide +kernel
theorem d_La_outX_4 : decode b_La_outX 4 = .ok (.invokevirtual 63, 3) := by decide +kernel
theorem d_La_outX_7 : decode b_La_outX 7 = .ok (.i2l, 1) := by decide +kernel
theorem d_La_outX_8 : decode b_La_outX 8 = .ok (.lastore, 1) := by decide +kernel
theorem d_La_outX_9 : decode b_La_outX 9 = .ok (.goto 6, 3) := by decide +kernel
theorem d_La_outX_12 : decode b_La_outX 12 = .ok (.astore_n 3, 1) := by decide +kernel
theorem d_La_outX_13 : decode b_La_outX 13 = .ok (.iconst 1, 1) := by decide +kernel
theorem d_La_outX_14 : decode b_La_outX 14 = .ok (.ireturn, 1) := by decide +kernel
theorem d_La_outX_15 : decode b_La_outX 15 = .ok (.iconst 0, 1) := by decide +kernel
theorem d_La_outX_16 : decode b_La_outX 16 = .ok (.ireturn, 1) := by decide +kernel
theorem d_Ho_outX_0 : decode b_Ho_outX 0 = .ok (.iload_n 1, 1) := by decide +kernel
theorem d_Ho_outX_1 : decode b_Ho_outX 1 = .ok (.aload_n 0, 1) := by decide +kernel
theorem d_Ho_outX_2 : decode b_Ho_outX 2 = .ok (.getfield 10, 3) := by decide +kernel
theorem d_Ho_outX_5 : decode b_Ho_outX 5 = .ok (.getfield 251, 3) := by decide +kernel
theorem d_Ho_outX_8 : decode b_Ho_outX 8 = .ok (.invokestatic 223, 3) := by decide +kernel
theorem d_Ho_outX_11 : decode b_Ho_outX 11 = .ok (.aload_n 0, 1) := by decide +kernel
theorem d_Ho_outX_12 : decode b_Ho_outX 12 = .ok (.getfield 10, 3) := by decide +kernel
theorem d_Ho_outX_15 : decode b_Ho_outX 15 = .ok (.getfield 262, 3) := by decide +kernel
theorem d_Ho_outX_18 : decode b_Ho_outX 18 = .ok (.aload_n 0, 1) := by decide +kernel
theorem d_Ho_outX_19 : decode b_Ho_outX 19 = .ok (.getfield 10, 3) := by decide +kernel
theorem d_Ho_outX_22 : decode b_Ho_outX 22 = .ok (.iload_n 1, 1) := by decide +kernel
theorem d_Ho_outX_23 : decode b_Ho_outX 23 = .ok (.invokevirtual 256, 3) := by decide +kernel
theorem d_Ho_outX_26 : decode b_Ho_outX 26 = .ok (.iaload, 1) := by decide +kernel
theorem d_Ho_outX_27 : decode b_Ho_outX 27 = .ok (.ireturn, 1) := by decide +kernel
theorem d_Mo_init_0 : decode b_Mo_init 0 = .ok (.aload_n 0, 1) := by decide +kernel
theorem d_Mo_init_1 : decode b_Mo_init 1 = .ok (.invokespecial 1, 3) := by decide +kernel
theorem d_Mo_init_4 : decode b_Mo_init 4 = .ok (.aload_n 0, 1) := by decide +kernel
theorem d_Mo_init_5 : decode b_Mo_init 5 = .ok (.bipush 40, 2) := by decide +kernel
theorem d_Mo_init_7 : decode b_Mo_init 7 = .ok (.putfield 7, 3) := by decide +kernel
theorem d_Mo_init_10 : decode b_Mo_init 10 = .ok (.aload_n 0, 1) := by decide +kernel
theorem d_Mo_init_11 : decode b_Mo_init 11 = .ok (.iconst 3, 1) := by decide +kernel
theorem d_Mo_init_12 : decode b_Mo_init 12 = .ok (.putfield 13, 3) := by decide +kernel
theorem d_Mo_init_15 : decode b_Mo_init 15 = .ok (.aload_n 0, 1) := by decide +kernel
theorem d_Mo_init_16 : decode b_Mo_init 16 = .ok (.bipush 12, 2) := by decide +kernel
theorem d_Mo_init_18 : decode b_Mo_init 18 = .ok (.newarray .int, 2) := by decide +kernel
theorem d_Mo_init_20 : decode b_Mo_init 20 = .ok (.putfield 16, 3) := by decide +kernel
theorem d_Mo_init_23 : decode b_Mo_init 23 = .ok (.aload_n 0, 1) := by decide +kernel
theorem d_Mo_init_24 : decode b_Mo_init 24 = .ok (.bipush 12, 2) := by decide +kernel
theorem d_Mo_init_26 : decode b_Mo_init 26 = .ok (.newarray .int, 2) := by decide +kernel
theorem d_Mo_init_28 : decode b_Mo_init 28 = .ok (.putfield 20, 3) := by decide +kernel
theorem d_Mo_init_31 : decode b_Mo_init 31 = .ok (.aload_n 0, 1) := by decide +kernel
theorem d_Mo_init_32 : decode b_Mo_init 32 = .ok (.bipush 12, 2) := by decide +kernel
theorem d_Mo_init_34 : decode b_Mo_init 34 = .ok (.newarray .int, 2) := by decide +kernel
theorem d_Mo_init_36 : decode b_Mo_init 36 = .ok (.putfield 23, 3) := by decide +kernel
theorem d_Mo_init_39 : decode b_Mo_init 39 = .ok (.aload_n 0, 1) := by decide +kernel
theorem d_Mo_init_40 : decode b_Mo_init 40 = .ok (.bipush 6, 2) := by decide +kernel
theorem d_Mo_init_42 : decode b_Mo_init 42 = .ok (.newarray .int, 2) := by decide +kernel
theorem d_Mo_init_44 : decode b_Mo_init 44 = .ok (.putfield 26, 3) := by decide +kernel
theorem d_Mo_init_47 : decode b_Mo_init 47 = .ok (.aload_n 0, 1) := by decide +kernel
theorem d_Mo_init_48 : decode b_Mo_init 48 = .ok (.bipush 6, 2) := by decide +kernel
theorem d_Mo_init_50 : decode b_Mo_init 50 = .ok (.newarray .int, 2) := by decide +kernel
theorem d_Mo_init_52 : decode b_Mo_init 52 = .ok (.putfield 29, 3) := by decide +kernel
theorem d_Mo_init_55 : decode b_Mo_init 55 = .ok (.aload_n 0, 1) := by decide +kernel
theorem d_Mo_init_56 : decode b_Mo_init 56 = .ok (.bipush 6, 2) := by decide +kernel
theorem d_Mo_init_58 : decode b_Mo_init 58 = .ok (.newarray .int, 2) := by decide +kernel
theorem d_Mo_init_60 : decode b_Mo_init 60 = .ok (.putfield 32, 3) := by decide +kernel
theorem d_Mo_init_63 : decode b_Mo_init 63 = .ok (.aload_n 0, 1) := by decide +kernel
theorem d_Mo_init_64 : decode b_Mo_init 64 = .ok (.bipush 6, 2) := by decide +kernel
theorem d_Mo_init_66 : decode b_Mo_init 66 = .ok (.newarray .int, 2) := by decide +kernel
theorem d_Mo_init_68 : decode b_Mo_init 68 = .ok (.putfield 35, 3) := by decide +kernel
theorem d_Mo_init_71 : decode b_Mo_init 71 = .ok (.aload_n 0, 1) := by decide +kernel
theorem d_Mo_init_72 : decode b_Mo_init 72 = .ok (.bipush 6, 2) := by decide +kernel
theorem d_Mo_init_74 : decode b_Mo_init 74 = .ok (.newarray .int, 2) := by decide +kernel
theorem d_Mo_init_76 : decode b_Mo_init 76 = .ok (.putfield 38, 3) := by decide +kernel
theorem d_Mo_init_79 : decode b_Mo_init 79 = .ok (.aload_n 0, 1) := by decide +kernel
theorem d_Mo_init_80 : decode b_Mo_init 80 = .ok (.bipush 7, 2) := by decide +kernel
theorem d_Mo_init_82 : decode b_Mo_init 82 = .ok (.newarray .int, 2) := by decide +kernel
theorem d_Mo_init_84 : decode b_Mo_init 84 = .ok (.putfield 41, 3) := by decide +kernel
theorem d_Mo_init_87 : decode b_Mo_init 87 = .ok (.aload_n 0, 1) := by decide +kernel
theorem d_Mo_init_88 : decode b_Mo_init 88 = .ok (.bipush 7, 2) := by decide +kernel
theorem d_Mo_init_90 : decode b_Mo_init 90 = .ok (.newarray .int, 2) := by decide +kernel
theorem d_Mo_init_92 : decode b_Mo_init 92 = .ok (.putfield 44, 3) := by decide +kernel
theorem d_Mo_init_95 : decode b_Mo_init 95 = .ok (.aload_n 0, 1) := by decide +kernel
theorem d_Mo_init_96 : decode b_Mo_init 96 = .ok (.bipush 7, 2) := by decide +kernel
theorem d_Mo_init_98 : decode b_Mo_init 98 = .ok (.newarray .boolean, 2) := by decide +kernel
theorem d_Mo_init_100 : decode b_Mo_init 100 = .ok (.putfield 47, 3) := by decide +kernel
theorem d_Mo_init_103 : decode b_Mo_init 103 = .ok (.aload_n 0, 1) := by decide +kernel
theorem d_Mo_init_104 : decode b_Mo_init 104 = .ok (.bipush 7, 2) := by decide +kernel
theorem d_Mo_init_106 : decode b_Mo_init 106 = .ok (.newarray .int, 2) := by decide +kernel
theorem d_Mo_init_108 : decode b_Mo_init 108 = .ok (.putfield 51, 3) := by decide +kernel
theorem d_Mo_init_111 : decode b_Mo_init 111 = .ok (.aload_n 0, 1) := by decide +kernel
theorem d_Mo_init_112 : decode b_Mo_init 112 = .ok (.bipush 7, 2) := by decide +kernel
theorem d_Mo_init_114 : decode b_Mo_init 114 = .ok (.newarray .int, 2) := by decide +kernel
theorem d_Mo_init_116 : decode b_Mo_init 116 = .ok (.putfield 54, 3) := by decide +kernel
theorem d_Mo_init_119 : decode b_Mo_init 119 = .ok (.aload_n 0, 1) := by decide +kernel
theorem d_Mo_init_120 : decode b_Mo_init 120 = .ok (.bipush 7, 2) := by decide +kernel
theorem d_Mo_init_122 : decode b_Mo_init 122 = .ok (.newarray .int, 2) := by decide +kernel
theorem d_Mo_init_124 : decode b_Mo_init 124 = .ok (.putfield 57, 3) := by decide +kernel
theorem d_Mo_init_127 : decode b_Mo_init 127 = .ok (.aload_n 0, 1) := by decide +kernel
theorem d_Mo_init_128 : decode b_Mo_init 128 = .ok (.iconst 3, 1) := by decide +kernel
theorem d_Mo_init_129 : decode b_Mo_init 129 = .ok (.newarray .int, 2) := by decide +kernel
theorem d_Mo_init_131 : decode b_Mo_init 131 = .ok (.putfield 60, 3) := by decide +kernel
theorem d_Mo_init_134 : decode b_Mo_init 134 = .ok (.aload_n 0, 1) := by decide +kernel
theorem d_Mo_init_135 : decode b_Mo_init 135 = .ok (.bipush 24, 2) := by decide +kernel
theorem d_Mo_init_137 : decode b_Mo_init 137 = .ok (.newarray .int, 2) := by decide +kernel
theorem d_Mo_init_139 : decode b_Mo_init 139 = .ok (.putfield 63, 3) := by decide +kernel
theorem d_Mo_init_142 : decode b_Mo_init 142 = .ok (.aload_n 0, 1) := by decide +kernel
theorem d_Mo_init_143 : decode b_Mo_init 143 = .ok (.bipush 24, 2) := by decide +kernel
theorem d_Mo_init_145 : decode b_Mo_init 145 = .ok (.newarray .int, 2) := by decide +kernel
theorem d_Mo_init_147 : decode b_Mo_init 147 = .ok (.putfield 66, 3) := by decide +kernel
theorem d_Mo_init_150 : decode b_Mo_init 150 = .ok (.aload_n 0, 1) := by decide +kernel
theorem d_Mo_init_151 : decode b_Mo_init 151 = .ok (.bipush 24, 2) := by decide +kernel
theorem d_Mo_init_153 : decode b_Mo_init 153 = .ok (.newarray .int, 2) := by decide +kernel
theorem d_Mo_init_155 : decode b_Mo_init 155 = .ok (.putfield 69, 3) := by decide +kernel
theorem d_Mo_init_158 : decode b_Mo_init 158 = .ok (.aload_n 0, 1) := by decide +kernel
theorem d_Mo_init_159 : decode b_Mo_init 159 = .ok (.bipush 6, 2) := by decide +kernel
theorem d_Mo_init_161 : decode b_Mo_init 161 = .ok (.newarray .int, 2) := by decide +kernel
theorem d_Mo_init_163 : decode b_Mo_init 163 = .ok (.putfield 72, 3) := by decide +kernel
theorem d_Mo_init_166 : decode b_Mo_init 166 = .ok (.aload_n 0, 1) := by decide +kernel
theorem d_Mo_init_167 : decode b_Mo_init 167 = .ok (.bipush 6, 2) := by decide +kernel
theorem d_Mo_init_169 : decode b_Mo_init 169 = .ok (.newarray .int, 2) := by decide +kernel
theorem d_Mo_init_171 : decode b_Mo_init 171 = .ok (.putfield 75, 3) := by decide +kernel
theorem d_Mo_init_174 : decode b_Mo_init 174 = .ok (.aload_n 0, 1) := by decide +kernel
theorem d_Mo_init_175 : decode b_Mo_init 175 = .ok (.iload_n 1, 1) := by decide +kernel
theorem d_Mo_init_176 : decode b_Mo_init 176 = .ok (.iconst 1, 1) := by decide +kernel
theorem d_Mo_init_177 : decode b_Mo_init 177 = .ok (.if_icmp .ge 7, 3) := by decide +kernel
theorem d_Mo_init_180 : decode b_Mo_init 180 = .ok (.iconst 1, 1) := by decide +kernel
theorem d_Mo_init_181 : decode b_Mo_init 181 = .ok (.goto 17, 3) := by decide +kernel
theorem d_Mo_init_184 : decode b_Mo_init 184 = .ok (.iload_n 1, 1) := by decide +kernel
theorem d_Mo_init_185 : decode b_Mo_init 185 = .ok (.sipush 254, 3) := by decide +kernel
theorem d_Mo_init_188 : decode b_Mo_init 188 = .ok (.if_icmp .le 9, 3) := by decide +kernel
theorem d_Mo_init_191 : decode b_Mo_init 191 = .ok (.sipush 254, 3) := by decide +kernel
theorem d_Mo_init_194 : decode b_Mo_init 194 = .ok (.goto 4, 3) := by decide +kernel
theorem d_Mo_init_197 : decode b_Mo_init 197 = .ok (.iload_n 1, 1) := by decide +kernel
theorem d_Mo_init_198 : decode b_Mo_init 198 = .ok (.putfield 78, 3) := by decide +kernel
theorem d_Mo_init_201 : decode b_Mo_init 201 = .ok (.aload_n 0, 1) := by decide +kernel
theorem d_Mo_init_202 : decode b_Mo_init 202 = .ok (.iconst 1, 1) := by decide +kernel
theorem d_Mo_init_203 : decode b_Mo_init 203 = .ok (.sipush 1000, 3) := by decide +kernel
theorem d_Mo_init_206 : decode b_Mo_init 206 = .ok (.sipush 1000, 3) := by decide +kernel
theorem d_Mo_init_209 : decode b_Mo_init 209 = .ok (.invokevirtual 81, 3) := by decide +kernel
theorem d_Mo_init_212 : decode b_Mo_init 212 = .ok (.return_, 1) := by decide +kernel
theorem d_Mo_form_0 : decode b_Mo_form 0 = .ok (.aload_n 0, 1) := by decide +kernel
theorem d_Mo_form_1 : decode b_Mo_form 1 = .ok (.getfield 26, 3) := by decide +kernel
theorem d_Mo_form_4 : decode b_Mo_form 4 = .ok (.aload_n 0, 1) := by decide +kernel
theorem d_Mo_form_5 : decode b_Mo_form 5 = .ok (.getfield 96, 3) := by decide +kernel
theorem d_Mo_form_8 : decode b_Mo_form 8 = .ok (.sipush 256, 3) := by decide +kernel
theorem d_Mo_form_11 : decode b_Mo_form 11 = .ok (.iload_n 1, 1) := by decide +kernel
theorem d_Mo_form_12 : decode b_Mo_form 12 = .ok (.imul, 1) := by decide +kernel
theorem d_Mo_form_13 : decode b_Mo_form 13 = .ok (.aload_n 0, 1) := by decide +kernel
theorem d_Mo_form_14 : decode b_Mo_form 14 = .ok (.getfield 78, 3) := by decide +kernel
theorem d_Mo_form_17 : decode b_Mo_form 17 = .ok (.iadd, 1) := by decide +kernel
theorem d_Mo_form_18 : decode b_Mo_form 18 = .ok (.iastore, 1) := by decide +kernel
theorem d_Mo_form_19 : decode b_Mo_form 19 = .ok (.aload_n 0, 1) := by decide +kernel
theorem d_Mo_form_20 : decode b_Mo_form 20 = .ok (.getfield 29, 3) := by decide +kernel
theorem d_Mo_form_23 : decode b_Mo_form 23 = .ok (.aload_n 0, 1) := by decide +kernel
theorem d_Mo_form_24 : decode b_Mo_form 24 = .ok (.getfield 96, 3) := by decide +kernel
theorem d_Mo_form_27 : decode b_Mo_form 27 = .ok (.iconst 1, 1) := by decide +kernel
theorem d_Mo_form_28 : decode b_Mo_form 28 = .ok (.iastore, 1) := by decide +kernel
theorem d_Mo_form_29 : decode b_Mo_form 29 = .ok (.aload_n 0, 1) := by decide +kernel
theorem d_Mo_form_30 : decode b_Mo_form 30 = .ok (.getfield 32, 3) := by decide +kernel
theorem d_Mo_form_33 : decode b_Mo_form 33 = .ok (.aload_n 0, 1) := by decide +kernel
theorem d_Mo_form_34 : decode b_Mo_form 34 = .ok (.getfield 96, 3) := by decide +kernel
theorem d_Mo_form_37 : decode b_Mo_form 37 = .ok (.aload_n 0, 1) := by decide +kernel
theorem d_Mo_form_38 : decode b_Mo_form 38 = .ok (.getfield 89, 3) := by decide +kernel
theorem d_Mo_form_41 : decode b_Mo_form 41 = .ok (.iastore, 1) := by decide +kernel
theorem d_Mo_form_42 : decode b_Mo_form 42 = .ok (.aload_n 0, 1) := by decide +kernel
theorem d_Mo_form_43 : decode b_Mo_form 43 = .ok (.getfield 35, 3) := by decide +kernel
theorem d_Mo_form_46 : decode b_Mo_form 46 = .ok (.aload_n 0, 1) := by decide +kernel
theorem d_Mo_form_47 : decode b_Mo_form 47 = .ok (.getfield 96, 3) := by decide +kernel
theorem d_Mo_form_50 : decode b_Mo_form 50 = .ok (.aload_n 0, 1) := by decide +kernel
theorem d_Mo_form_51 : decode b_Mo_form 51 = .ok (.iload_n 3, 1) := by decide +kernel
theorem d_Mo_form_52 : decode b_Mo_form 52 = .ok (.invokevirtual 99, 3) := by decide +kernel
theorem d_Mo_form_55 : decode b_Mo_form 55 = .ok (.iastore, 1) := by decide +kernel
theorem d_Mo_form_56 : decode b_Mo_form 56 = .ok (.aload_n 0, 1) := by decide +kernel
theorem d_Mo_form_57 : decode b_Mo_form 57 = .ok (.getfield 38, 3) := by decide +kernel
theorem d_Mo_form_60 : decode b_Mo_form 60 = .ok (.aload_n 0, 1) := by decide +kernel
theorem d_Mo_form_61 : decode b_Mo_form 61 = .ok (.getfield 96, 3) := by decide +kernel
theorem d_Mo_form_64 : decode b_Mo_form 64 = .ok (.aload_n 0, 1) := by decide +kernel
theorem d_Mo_form_65 : decode b_Mo_form 65 = .ok (.iload_n 2, 1) := by decide +kernel
theorem d_Mo_form_66 : decode b_Mo_form 66 = .ok (.invokevirtual 99, 3) := by decide +kernel
theorem d_Mo_form_69 : decode b_Mo_form 69 = .ok (.iastore, 1) := by decide +kernel
theorem d_Mo_form_70 : decode b_Mo_form 70 = .ok (.aload_n 0, 1) := by decide +kernel
theorem d_Mo_form_71 : decode b_Mo_form 71 = .ok (.dup, 1) := by decide +kernel
theorem d_Mo_form_72 : decode b_Mo_form 72 = .ok (.getfield 96, 3) := by decide +kernel
theorem d_Mo_form_75 : decode b_Mo_form 75 = .ok (.iconst 1, 1) := by decide +kernel
theorem d_Mo_form_76 : decode b_Mo_form 76 = .ok (.iadd, 1) := by decide +kernel
theorem d_Mo_form_77 : decode b_Mo_form 77 = .ok (.putfield 96, 3) := by decide +kernel
theorem d_Mo_form_80 : decode b_Mo_form 80 = .ok (.aload_n 0, 1) := by decide +kernel
theorem d_Mo_form_81 : decode b_Mo_form 81 = .ok (.iconst 1, 1) := by decide +kernel
theorem d_Mo_form_82 : decode b_Mo_form 82 = .ok (.ldc 103, 2) := by decide +kernel
theorem d_Mo_form_84 : decode b_Mo_form 84 = .ok (.sipush 256, 3) := by decide +kernel
theorem d_Mo_form_87 : decode b_Mo_form 87 = .ok (.iload_n 1, 1) := by decide +kernel
theorem d_Mo_form_88 : decode b_Mo_form 88 = .ok (.imul, 1) := by decide +kernel
theorem d_Mo_form_89 : decode b_Mo_form 89 = .ok (.aload_n 0, 1) := by decide +kernel
theorem d_Mo_form_90 : decode b_Mo_form 90 = .ok (.getfield 78, 3) := by decide +kernel
theorem d_Mo_form_93 : decode b_Mo_form 93 = .ok (.iadd, 1) := by decide +kernel
theorem d_Mo_form_94 : decode b_Mo_form 94 = .ok (.invokevirtual 104, 3) := by decide +kernel
theorem d_Mo_form_97 : decode b_Mo_form 97 = .ok (.return_, 1) := by decide +kernel
theorem d_Mo_end_0 : decode b_Mo_end 0 = .ok (.iload_n 1, 1) := by decide +kernel
theorem d_Mo_end_1 : decode b_Mo_end 1 = .ok (.sipush 1000, 3) := by decide +kernel
theorem d_Mo_end_4 : decode b_Mo_end 4 = .ok (.if_icmp .ne 8, 3) := by decide +kernel
theorem d_Mo_end_7 : decode b_Mo_end 7 = .ok (.ldc 88, 2) := by decide +kernel
theorem d_Mo_end_9 : decode b_Mo_end 9 = .ok (.goto 9, 3) := by decide +kernel
theorem d_Mo_end_12 : decode b_Mo_end 12 = .ok (.aload_n 0, 1) := by decide +kernel
theorem d_Mo_end_13 : decode b_Mo_end 13 = .ok (.getfield 89, 3) := by decide +kernel
theorem d_Mo_end_16 : decode b_Mo_end 16 = .ok (.iload_n 1, 1) := by decide +kernel
theorem d_Mo_end_17 : decode b_Mo_end 17 = .ok (.iadd, 1) := by decide +kernel
theorem d_Mo_end_18 : decode b_Mo_end 18 = .ok (.ireturn, 1) := by decide +kernel
theorem d_Mo_out_0 : decode b_Mo_out 0 = .ok (.aload_n 0, 1) := by decide +kernel
theorem d_Mo_out_1 : decode b_Mo_out 1 = .ok (.getfield 92, 3) := by decide +kernel
theorem d_Mo_out_4 : decode b_Mo_out 4 = .ok (.bipush 12, 2) := by decide +kernel
theorem d_Mo_out_6 : decode b_Mo_out 6 = .ok (.irem, 1) := by decide +kernel
theorem d_Mo_out_7 : decode b_Mo_out 7 = .ok (.istore 4, 2) := by decide +kernel
theorem d_Mo_out_9 : decode b_Mo_out 9 = .ok (.aload_n 0, 1) := by decide +kernel
theorem d_Mo_out_10 : decode b_Mo_out 10 = .ok (.getfield 16, 3) := by decide +kernel
theorem d_Mo_out_13 : decode b_Mo_out 13 = .ok (.iload 4, 2) := by decide +kernel
theorem d_Mo_out_15 : decode b_Mo_out 15 = .ok (.iload_n 1, 1) := by decide +kernel
theorem d_Mo_out_16 : decode b_Mo_out 16 = .ok (.iastore, 1) := by decide +kernel
theorem d_Mo_out_17 : decode b_Mo_out 17 = .ok (.aload_n 0, 1) := by decide +kernel
theorem d_Mo_out_18 : decode b_Mo_out 18 = .ok (.getfield 20, 3) := by decide +kernel
theorem d_Mo_out_21 : decode b_Mo_out 21 = .ok (.iload 4, 2) := by decide +kernel
theorem d_Mo_out_23 : decode b_Mo_out 23 = .ok (.iload_n 2, 1) := by decide +kernel
theorem d_Mo_out_24 : decode b_Mo_out 24 = .ok (.iastore, 1) := by decide +kernel
theorem d_Mo_out_25 : decode b_Mo_out 25 = .ok (.aload_n 0, 1) := by decide +kernel
theorem d_Mo_out_26 : decode b_Mo_out 26 = .ok (.getfield 23, 3) := by decide +kernel
theorem d_Mo_out_29 : decode b_Mo_out 29 = .ok (.iload 4, 2) := by decide +kernel
theorem d_Mo_out_31 : decode b_Mo_out 31 = .ok (.iload_n 3, 1) := by decide +kernel
theorem d_Mo_out_32 : decode b_Mo_out 32 = .ok (.iastore, 1) := by decide +kernel
theorem d_Mo_out_33 : decode b_Mo_out 33 = .ok (.aload_n 0, 1) := by decide +kernel
theorem d_Mo_out_34 : decode b_Mo_out 34 = .ok (.dup, 1) := by decide +kernel
theorem d_Mo_out_35 : decode b_Mo_out 35 = .ok (.getfield 92, 3) := by decide +kernel
theorem d_Mo_out_38 : decode b_Mo_out 38 = .ok (.iconst 1, 1) := by decide +kernel
theorem d_Mo_out_39 : decode b_Mo_out 39 = .ok (.iadd, 1) := by decide +kernel
theorem d_Mo_out_40 : decode b_Mo_out 40 = .ok (.putfield 92, 3) := by decide +kernel
theorem d_Mo_out_43 : decode b_Mo_out 43 = .ok (.return_, 1) := by decide +kernel
theorem d_Mo_thrown_0 : decode b_Mo_thrown 0 = .ok (.aload_n 0, 1) := by decide +kernel
theorem d_Mo_thrown_1 : decode b_Mo_thrown 1 = .ok (.getfield 85, 3) := by decide +kernel
theorem d_Mo_thrown_4 : decode b_Mo_thrown 4 = .ok (.ireturn, 1) := by decide +kernel
theorem d_Mo_tick_0 : decode b_Mo_tick 0 = .ok (.aload_n 0, 1) := by decide +kernel
theorem d_Mo_tick_1 : decode b_Mo_tick 1 = .ok (.iload_n 1, 1) := by decide +kernel
theorem d_Mo_tick_2 : decode b_Mo_tick 2 = .ok (.iconst 1, 1) := by decide +kernel
theorem d_Mo_tick_3 : decode b_Mo_tick 3 = .ok (.if_icmp .lt 9, 3) := by decide +kernel
theorem d_Mo_tick_6 : decode b_Mo_tick 6 = .ok (.iload_n 1, 1) := by decide +kernel
theorem d_Mo_tick_7 : decode b_Mo_tick 7 = .ok (.bipush 100, 2) := by decide +kernel
theorem d_Mo_tick_9 : decode b_Mo_tick 9 = .ok (.if_icmp .le 7, 3) := by decide +kernel
theorem d_Mo_tick_12 : decode b_Mo_tick 12 = .ok (.iconst 1, 1) := by decide +kernel
theorem d_Mo_tick_13 : decode b_Mo_tick 13 = .ok (.goto 4, 3) := by decide +kernel
theorem d_Mo_tick_16 : decode b_Mo_tick 16 = .ok (.iconst 0, 1) := by decide +kernel
theorem d_Mo_tick_17 : decode b_Mo_tick 17 = .ok (.putfield 85, 3) := by decide +kernel
theorem d_Mo_tick_20 : decode b_Mo_tick 20 = .ok (.iconst 0, 1) := by decide +kernel
theorem d_Mo_tick_21 : decode b_Mo_tick 21 = .ok (.istore_n 2, 1) := by decide +kernel
theorem d_Mo_tick_22 : decode b_Mo_tick 22 = .ok (.iload_n 2, 1) := by decide +kernel
theorem d_Mo_tick_23 : decode b_Mo_tick 23 = .ok (.iload_n 1, 1) := by decide +kernel
theorem d_Mo_tick_24 : decode b_Mo_tick 24 = .ok (.if_icmp .ge 79, 3) := by decide +kernel
theorem d_Mo_tick_27 : decode b_Mo_tick 27 = .ok (.aload_n 0, 1) := by decide +kernel
theorem d_Mo_tick_28 : decode b_Mo_tick 28 = .ok (.getfield 85, 3) := by decide +kernel
theorem d_Mo_tick_31 : decode b_Mo_tick 31 = .ok (.ifCond .ne 72, 3) := by decide +kernel
theorem d_Mo_tick_34 : decode b_Mo_tick 34 = .ok (.aload_n 0, 1) := by decide +kernel
theorem d_Mo_tick_35 : decode b_Mo_tick 35 = .ok (.dup, 1) := by decide +kernel
theorem d_Mo_tick_36 : decode b_Mo_tick 36 = .ok (.getfield 89, 3) := by decide +kernel
theorem d_Mo_tick_39 : decode b_Mo_tick 39 = .ok (.iconst 1, 1) := by decide +kernel
theorem d_Mo_tick_40 : decode b_Mo_tick 40 = .ok (.iadd, 1) := by decide +kernel
theorem d_Mo_tick_41 : decode b_Mo_tick 41 = .ok (.putfield 89, 3) := by decide +kernel
theorem d_Mo_tick_44 : decode b_Mo_tick 44 = .ok (.aload_n 0, 1) := by decide +kernel
theorem d_Mo_tick_45 : decode b_Mo_tick 45 = .ok (.getfield 107, 3) := by decide +kernel
theorem d_Mo_tick_48 : decode b_Mo_tick 48 = .ok (.ifCond .ne 49, 3) := by decide +kernel
theorem d_Mo_tick_51 : decode b_Mo_tick 51 = .ok (.aload_n 0, 1) := by decide +kernel
theorem d_Mo_tick_52 : decode b_Mo_tick 52 = .ok (.invokevirtual 158, 3) := by decide +kernel
theorem d_Mo_tick_55 : decode b_Mo_tick 55 = .ok (.aload_n 0, 1) := by decide +kernel
theorem d_Mo_tick_56 : decode b_Mo_tick 56 = .ok (.invokevirtual 161, 3) := by decide +kernel
theorem d_Mo_tick_59 : decode b_Mo_tick 59 = .ok (.aload_n 0, 1) := by decide +kernel
theorem d_Mo_tick_60 : decode b_Mo_tick 60 = .ok (.invokevirtual 164, 3) := by decide +kernel
theorem d_Mo_tick_63 : decode b_Mo_tick 63 = .ok (.aload_n 0, 1) := by decide +kernel
theorem d_Mo_tick_64 : decode b_Mo_tick 64 = .ok (.aload_n 0, 1) := by decide +kernel
theorem d_Mo_tick_65 : decode b_Mo_tick 65 = .ok (.getfield 89, 3) := by decide +kernel
theorem d_Mo_tick_68 : decode b_Mo_tick 68 = .ok (.iconst 4, 1) := by decide +kernel
theorem d_Mo_tick_69 : decode b_Mo_tick 69 = .ok (.irem, 1) := by decide +kernel
theorem d_Mo_tick_70 : decode b_Mo_tick 70 = .ok (.ifCond .ne 20, 3) := by decide +kernel
theorem d_Mo_tick_73 : decode b_Mo_tick 73 = .ok (.aload_n 0, 1) := by decide +kernel
theorem d_Mo_tick_74 : decode b_Mo_tick 74 = .ok (.getfield 13, 3) := by decide +kernel
theorem d_Mo_tick_77 : decode b_Mo_tick 77 = .ok (.iconst 3, 1) := by decide +kernel
theorem d_Mo_tick_78 : decode b_Mo_tick 78 = .ok (.if_icmp .ge 12, 3) := by decide +kernel
theorem d_Mo_tick_81 : decode b_Mo_tick 81 = .ok (.aload_n 0, 1) := by decide +kernel
theorem d_Mo_tick_82 : decode b_Mo_tick 82 = .ok (.getfield 13, 3) := by decide +kernel
theorem d_Mo_tick_85 : decode b_Mo_tick 85 = .ok (.iconst 1, 1) := by decide +kernel
theorem d_Mo_tick_86 : decode b_Mo_tick 86 = .ok (.iadd, 1) := by decide +kernel
theorem d_Mo_tick_87 : decode b_Mo_tick 87 = .ok (.goto 7, 3) := by decide +kernel
theorem d_Mo_tick_90 : decode b_Mo_tick 90 = .ok (.aload_n 0, 1) := by decide +kernel
theorem d_Mo_tick_91 : decode b_Mo_tick 91 = .ok (.getfield 13, 3) := by decide +kernel
theorem d_Mo_tick_94 : decode b_Mo_tick 94 = .ok (.putfield 13, 3) := by decide +kernel
theorem d_Mo_tick_97 : decode b_Mo_tick 97 = .ok (.iinc 2 1, 3) := by decide +kernel
theorem d_Mo_tick_100 : decode b_Mo_tick 100 = .ok (.goto (-78), 3) := by decide +kernel
theorem d_Mo_tick_103 : decode b_Mo_tick 103 = .ok (.return_, 1) := by decide +kernel
theorem d_Mo_ageOwn_0 : decode b_Mo_ageOwn 0 = .ok (.iconst 0, 1) := by decide +kernel
theorem d_Mo_ageOwn_1 : decode b_Mo_ageOwn 1 = .ok (.istore_n 1, 1) := by decide +kernel
theorem d_Mo_ageOwn_2 : decode b_Mo_ageOwn 2 = .ok (.iload_n 1, 1) := by decide +kernel
theorem d_Mo_ageOwn_3 : decode b_Mo_ageOwn 3 = .ok (.aload_n 0, 1) := by decide +kernel
theorem d_Mo_ageOwn_4 : decode b_Mo_ageOwn 4 = .ok (.getfield 96, 3) := by decide +kernel
theorem d_Mo_ageOwn_7 : decode b_Mo_ageOwn 7 = .ok (.if_icmp .ge 30, 3) := by decide +kernel
theorem d_Mo_ageOwn_10 : decode b_Mo_ageOwn 10 = .ok (.aload_n 0, 1) := by decide +kernel
theorem d_Mo_ageOwn_11 : decode b_Mo_ageOwn 11 = .ok (.getfield 38, 3) := by decide +kernel
theorem d_Mo_ageOwn_14 : decode b_Mo_ageOwn 14 = .ok (.iload_n 1, 1) := by decide +kernel
theorem d_Mo_ageOwn_15 : decode b_Mo_ageOwn 15 = .ok (.iaload, 1) := by decide +kernel
theorem d_Mo_ageOwn_16 : decode b_Mo_ageOwn 16 = .ok (.aload_n 0, 1) := by decide +kernel
theorem d_Mo_ageOwn_17 : decode b_Mo_ageOwn 17 = .ok (.getfield 89, 3) := by decide +kernel
theorem d_Mo_ageOwn_20 : decode b_Mo_ageOwn 20 = .ok (.if_icmp .gt 11, 3) := by decide +kernel
theorem d_Mo_ageOwn_23 : decode b_Mo_ageOwn 23 = .ok (.aload_n 0, 1) := by decide +kernel
theorem d_Mo_ageOwn_24 : decode b_Mo_ageOwn 24 = .ok (.iload_n 1, 1) := by decide +kernel
theorem d_Mo_ageOwn_25 : decode b_Mo_ageOwn 25 = .ok (.invokevirtual 115, 3) := by decide +kernel
theorem d_Mo_ageOwn_28 : decode b_Mo_ageOwn 28 = .ok (.goto (-26), 3) := by decide +kernel
theorem d_Mo_ageOwn_31 : decode b_Mo_ageOwn 31 = .ok (.iinc 1 1, 3) := by decide +kernel
theorem d_Mo_ageOwn_34 : decode b_Mo_ageOwn 34 = .ok (.goto (-32), 3) := by decide +kernel
theorem d_Mo_ageOwn_37 : decode b_Mo_ageOwn 37 = .ok (.iconst 0, 1) := by decide +kernel
theorem d_Mo_ageOwn_38 : decode b_Mo_ageOwn 38 = .ok (.istore_n 2, 1) := by decide +kernel
theorem d_Mo_ageOwn_39 : decode b_Mo_ageOwn 39 = .ok (.iload_n 2, 1) := by decide +kernel
theorem d_Mo_ageOwn_40 : decode b_Mo_ageOwn 40 = .ok (.aload_n 0, 1) := by decide +kernel
theorem d_Mo_ageOwn_41 : decode b_Mo_ageOwn 41 = .ok (.getfield 96, 3) := by decide +kernel
theorem d_Mo_ageOwn_44 : decode b_Mo_ageOwn 44 = .ok (.if_icmp .ge 96, 3) := by decide +kernel
theorem d_Mo_ageOwn_47 : decode b_Mo_ageOwn 47 = .ok (.aload_n 0, 1) := by decide +kernel
theorem d_Mo_ageOwn_48 : decode b_Mo_ageOwn 48 = .ok (.getfield 35, 3) := by decide +kernel
theorem d_Mo_ageOwn_51 : decode b_Mo_ageOwn 51 = .ok (.iload_n 2, 1) := by decide +kernel
theorem d_Mo_ageOwn_52 : decode b_Mo_ageOwn 52 = .ok (.iaload, 1) := by decide +kernel
theorem d_Mo_ageOwn_53 : decode b_Mo_ageOwn 53 = .ok (.aload_n 0, 1) := by decide +kernel
theorem d_Mo_ageOwn_54 : decode b_Mo_ageOwn 54 = .ok (.getfield 89, 3) := by decide +kernel
theorem d_Mo_ageOwn_57 : decode b_Mo_ageOwn 57 = .ok (.if_icmp .gt 7, 3) := by decide +kernel
theorem d_Mo_ageOwn_60 : decode b_Mo_ageOwn 60 = .ok (.iconst 3, 1) := by decide +kernel
theorem d_Mo_ageOwn_61 : decode b_Mo_ageOwn 61 = .ok (.goto 4, 3) := by decide +kernel
theorem d_Mo_ageOwn_64 : decode b_Mo_ageOwn 64 = .ok (.iconst 2, 1) := by decide +kernel
theorem d_Mo_ageOwn_65 : decode b_Mo_ageOwn 65 = .ok (.istore_n 3, 1) := by decide +kernel
theorem d_Mo_ageOwn_66 : decode b_Mo_ageOwn 66 = .ok (.aload_n 0, 1) := by decide +kernel
theorem d_Mo_ageOwn_67 : decode b_Mo_ageOwn 67 = .ok (.getfield 29, 3) := by decide +kernel
theorem d_Mo_ageOwn_70 : decode b_Mo_ageOwn 70 = .ok (.iload_n 2, 1) := by decide +kernel
theorem d_Mo_ageOwn_71 : decode b_Mo_ageOwn 71 = .ok (.iaload, 1) := by decide +kernel
theorem d_Mo_ageOwn_72 : decode b_Mo_ageOwn 72 = .ok (.iconst 1, 1) := by decide +kernel
theorem d_Mo_ageOwn_73 : decode b_Mo_ageOwn 73 = .ok (.if_icmp .ne 34, 3) := by decide +kernel
theorem d_Mo_ageOwn_76 : decode b_Mo_ageOwn 76 = .ok (.aload_n 0, 1) := by decide +kernel
theorem d_Mo_ageOwn_77 : decode b_Mo_ageOwn 77 = .ok (.getfield 89, 3) := by decide +kernel
theorem d_Mo_ageOwn_80 : decode b_Mo_ageOwn 80 = .ok (.aload_n 0, 1) := by decide +kernel
theorem d_Mo_ageOwn_81 : decode b_Mo_ageOwn 81 = .ok (.getfield 32, 3) := by decide +kernel
theorem d_Mo_ageOwn_84 : decode b_Mo_ageOwn 84 = .ok (.iload_n 2, 1) := by decide +kernel
theorem d_Mo_ageOwn_85 : decode b_Mo_ageOwn 85 = .ok (.iaload, 1) := by decide +kernel
theorem d_Mo_ageOwn_86 : decode b_Mo_ageOwn 86 = .ok (.iconst 1, 1) := by decide +kernel
theorem d_Mo_ageOwn_87 : decode b_Mo_ageOwn 87 = .ok (.iadd, 1) := by decide +kernel
theorem d_Mo_ageOwn_88 : decode b_Mo_ageOwn 88 = .ok (.if_icmp .ne 19, 3) := by decide +kernel
theorem d_Mo_ageOwn_91 : decode b_Mo_ageOwn 91 = .ok (.aload_n 0, 1) := by decide +kernel
theorem d_Mo_ageOwn_92 : decode b_Mo_ageOwn 92 = .ok (.iconst 1, 1) := by decide +kernel
theorem d_Mo_ageOwn_93 : decode b_Mo_ageOwn 93 = .ok (.ldc 103, 2) := by decide +kernel
theorem d_Mo_ageOwn_95 : decode b_Mo_ageOwn 95 = .ok (.aload_n 0, 1) := by decide +kernel
theorem d_Mo_ageOwn_96 : decode b_Mo_ageOwn 96 = .ok (.getfield 26, 3) := by decide +kernel
theorem d_Mo_ageOwn_99 : decode b_Mo_ageOwn 99 = .ok (.iload_n 2, 1) := by decide +kernel
theorem d_Mo_ageOwn_100 : decode b_Mo_ageOwn 100 = .ok (.iaload, 1) := by decide +kernel
theorem d_Mo_ageOwn_101 : decode b_Mo_ageOwn 101 = .ok (.invokevirtual 104, 3) := by decide +kernel
theorem d_Mo_ageOwn_104 : decode b_Mo_ageOwn 104 = .ok (.goto 30, 3) := by decide +kernel
theorem d_Mo_ageOwn_107 : decode b_Mo_ageOwn 107 = .ok (.aload_n 0, 1) := by decide +kernel
theorem d_Mo_ageOwn_108 : decode b_Mo_ageOwn 108 = .ok (.getfield 29, 3) := by decide +kernel
theorem d_Mo_ageOwn_111 : decode b_Mo_ageOwn 111 = .ok (.iload_n 2, 1) := by decide +kernel
theorem d_Mo_ageOwn_112 : decode b_Mo_ageOwn 112 = .ok (.iaload, 1) := by decide +kernel
theorem d_Mo_ageOwn_113 : decode b_Mo_ageOwn 113 = .ok (.iconst 1, 1) := by decide +kernel
theorem d_Mo_ageOwn_114 : decode b_Mo_ageOwn 114 = .ok (.if_icmp .eq 13, 3) := by decide +kernel
theorem d_Mo_ageOwn_117 : decode b_Mo_ageOwn 117 = .ok (.aload_n 0, 1) := by decide +kernel
theorem d_Mo_ageOwn_118 : decode b_Mo_ageOwn 118 = .ok (.getfield 29, 3) := by decide +kernel
theorem d_Mo_ageOwn_121 : decode b_Mo_ageOwn 121 = .ok (.iload_n 2, 1) := by decide +kernel
theorem d_Mo_ageOwn_122 : decode b_Mo_ageOwn 122 = .ok (.iaload, 1) := by decide +kernel
theorem d_Mo_ageOwn_123 : decode b_Mo_ageOwn 123 = .ok (.iconst 2, 1) := by decide +kernel
theorem d_Mo_ageOwn_124 : decode b_Mo_ageOwn 124 = .ok (.if_icmp .ne 10, 3) := by decide +kernel
theorem d_Mo_ageOwn_127 : decode b_Mo_ageOwn 127 = .ok (.aload_n 0, 1) := by decide +kernel
theorem d_Mo_ageOwn_128 : decode b_Mo_ageOwn 128 = .ok (.getfield 29, 3) := by decide +kernel
theorem d_Mo_ageOwn_131 : decode b_Mo_ageOwn 131 = .ok (.iload_n 2, 1) := by decide +kernel
theorem d_Mo_ageOwn_132 : decode b_Mo_ageOwn 132 = .ok (.iload_n 3, 1) := by decide +kernel
theorem d_Mo_ageOwn_133 : decode b_Mo_ageOwn 133 = .ok (.iastore, 1) := by decide +kernel
theorem d_Mo_ageOwn_134 : decode b_Mo_ageOwn 134 = .ok (.iinc 2 1, 3) := by decide +kernel
theorem d_Mo_ageOwn_137 : decode b_Mo_ageOwn 137 = .ok (.goto (-98), 3) := by decide +kernel
theorem d_Mo_ageOwn_140 : decode b_Mo_ageOwn 140 = .ok (.return_, 1) := by decide +kernel
