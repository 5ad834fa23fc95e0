/-! decode rows: by a program -/
theorem d_Mo_isAddress_0 : decode b_Mo_isAddress 0 = .ok (.iload_n 1, 1) := by decide +kernel
theorem d_Mo_isAddress_1 : decode b_Mo_isAddress 1 = .ok (.ifCond .lt 53, 3) := by decide +kernel
theorem d_Mo_isAddress_4 : decode b_Mo_isAddress 4 = .ok (.iload_n 1, 1) := by decide +kernel
theorem d_Mo_isAddress_5 : decode b_Mo_isAddress 5 = .ok (.ldc 95, 2) := by decide +kernel
theorem d_Mo_isAddress_7 : decode b_Mo_isAddress 7 = .ok (.if_icmp .ge 47, 3) := by decide +kernel
theorem d_Mo_isAddress_10 : decode b_Mo_isAddress 10 = .ok (.iload_n 1, 1) := by decide +kernel
theorem d_Mo_isAddress_11 : decode b_Mo_isAddress 11 = .ok (.sipush 256, 3) := by decide +kernel
theorem d_Mo_isAddress_14 : decode b_Mo_isAddress 14 = .ok (.idiv, 1) := by decide +kernel
theorem d_Mo_isAddress_15 : decode b_Mo_isAddress 15 = .ok (.iconst 1, 1) := by decide +kernel
theorem d_Mo_isAddress_16 : decode b_Mo_isAddress 16 = .ok (.if_icmp .lt 38, 3) := by decide +kernel
theorem d_Mo_isAddress_19 : decode b_Mo_isAddress 19 = .ok (.iload_n 1, 1) := by decide +kernel
theorem d_Mo_isAddress_20 : decode b_Mo_isAddress 20 = .ok (.sipush 256, 3) := by decide +kernel
theorem d_Mo_isAddress_23 : decode b_Mo_isAddress 23 = .ok (.idiv, 1) := by decide +kernel
theorem d_Mo_isAddress_24 : decode b_Mo_isAddress 24 = .ok (.sipush 250, 3) := by decide +kernel
theorem d_Mo_isAddress_27 : decode b_Mo_isAddress 27 = .ok (.if_icmp .gt 27, 3) := by decide +kernel
theorem d_Mo_isAddress_30 : decode b_Mo_isAddress 30 = .ok (.iload_n 1, 1) := by decide +kernel
theorem d_Mo_isAddress_31 : decode b_Mo_isAddress 31 = .ok (.sipush 256, 3) := by decide +kernel
theorem d_Mo_isAddress_34 : decode b_Mo_isAddress 34 = .ok (.irem, 1) := by decide +kernel
theorem d_Mo_isAddress_35 : decode b_Mo_isAddress 35 = .ok (.iconst 1, 1) := by decide +kernel
theorem d_Mo_isAddress_36 : decode b_Mo_isAddress 36 = .ok (.if_icmp .lt 18, 3) := by decide +kernel
theorem d_Mo_isAddress_39 : decode b_Mo_isAddress 39 = .ok (.iload_n 1, 1) := by decide +kernel
theorem d_Mo_isAddress_40 : decode b_Mo_isAddress 40 = .ok (.sipush 256, 3) := by decide +kernel
theorem d_Mo_isAddress_43 : decode b_Mo_isAddress 43 = .ok (.irem, 1) := by decide +kernel
theorem d_Mo_isAddress_44 : decode b_Mo_isAddress 44 = .ok (.sipush 254, 3) := by decide +kernel
theorem d_Mo_isAddress_47 : decode b_Mo_isAddress 47 = .ok (.if_icmp .gt 7, 3) := by decide +kernel
theorem d_Mo_isAddress_50 : decode b_Mo_isAddress 50 = .ok (.iconst 1, 1) := by decide +kernel
theorem d_Mo_isAddress_51 : decode b_Mo_isAddress 51 = .ok (.goto 4, 3) := by decide +kernel
theorem d_Mo_isAddress_54 : decode b_Mo_isAddress 54 = .ok (.iconst 0, 1) := by decide +kernel
theorem d_Mo_isAddress_55 : decode b_Mo_isAddress 55 = .ok (.ireturn, 1) := by decide +kernel
theorem d_Mo_contradict_0 : decode b_Mo_contradict 0 = .ok (.aload_n 0, 1) := by decide +kernel
theorem d_Mo_contradict_1 : decode b_Mo_contradict 1 = .ok (.getfield 29, 3) := by decide +kernel
theorem d_Mo_contradict_4 : decode b_Mo_contradict 4 = .ok (.iload_n 1, 1) := by decide +kernel
theorem d_Mo_contradict_5 : decode b_Mo_contradict 5 = .ok (.iconst 4, 1) := by decide +kernel
theorem d_Mo_contradict_6 : decode b_Mo_contradict 6 = .ok (.iastore, 1) := by decide +kernel
theorem d_Mo_contradict_7 : decode b_Mo_contradict 7 = .ok (.aload_n 0, 1) := by decide +kernel
theorem d_Mo_contradict_8 : decode b_Mo_contradict 8 = .ok (.aload_n 0, 1) := by decide +kernel
theorem d_Mo_contradict_9 : decode b_Mo_contradict 9 = .ok (.getfield 107, 3) := by decide +kernel
theorem d_Mo_contradict_12 : decode b_Mo_contradict 12 = .ok (.ifCond .ne 16, 3) := by decide +kernel
theorem d_Mo_contradict_15 : decode b_Mo_contradict 15 = .ok (.aload_n 0, 1) := by decide +kernel
theorem d_Mo_contradict_16 : decode b_Mo_contradict 16 = .ok (.aload_n 0, 1) := by decide +kernel
theorem d_Mo_contradict_17 : decode b_Mo_contradict 17 = .ok (.getfield 26, 3) := by decide +kernel
theorem d_Mo_contradict_20 : decode b_Mo_contradict 20 = .ok (.iload_n 1, 1) := by decide +kernel
theorem d_Mo_contradict_21 : decode b_Mo_contradict 21 = .ok (.iaload, 1) := by decide +kernel
theorem d_Mo_contradict_22 : decode b_Mo_contradict 22 = .ok (.invokevirtual 111, 3) := by decide +kernel
theorem d_Mo_contradict_25 : decode b_Mo_contradict 25 = .ok (.ifCond .eq 7, 3) := by decide +kernel
theorem d_Mo_contradict_28 : decode b_Mo_contradict 28 = .ok (.iconst 1, 1) := by decide +kernel
theorem d_Mo_contradict_29 : decode b_Mo_contradict 29 = .ok (.goto 4, 3) := by decide +kernel
theorem d_Mo_contradict_32 : decode b_Mo_contradict 32 = .ok (.iconst 0, 1) := by decide +kernel
theorem d_Mo_contradict_33 : decode b_Mo_contradict 33 = .ok (.putfield 107, 3) := by decide +kernel
theorem d_Mo_contradict_36 : decode b_Mo_contradict 36 = .ok (.return_, 1) := by decide +kernel
theorem d_Mo_isLocal_0 : decode b_Mo_isLocal 0 = .ok (.iload_n 1, 1) := by decide +kernel
theorem d_Mo_isLocal_1 : decode b_Mo_isLocal 1 = .ok (.sipush 256, 3) := by decide +kernel
theorem d_Mo_isLocal_4 : decode b_Mo_isLocal 4 = .ok (.idiv, 1) := by decide +kernel
theorem d_Mo_isLocal_5 : decode b_Mo_isLocal 5 = .ok (.iconst 1, 1) := by decide +kernel
theorem d_Mo_isLocal_6 : decode b_Mo_isLocal 6 = .ok (.if_icmp .ne 7, 3) := by decide +kernel
theorem d_Mo_isLocal_9 : decode b_Mo_isLocal 9 = .ok (.iconst 1, 1) := by decide +kernel
theorem d_Mo_isLocal_10 : decode b_Mo_isLocal 10 = .ok (.goto 4, 3) := by decide +kernel
theorem d_Mo_isLocal_13 : decode b_Mo_isLocal 13 = .ok (.iconst 0, 1) := by decide +kernel
theorem d_Mo_isLocal_14 : decode b_Mo_isLocal 14 = .ok (.ireturn, 1) := by decide +kernel
theorem d_Mo_usable_0 : decode b_Mo_usable 0 = .ok (.iload_n 1, 1) := by decide +kernel
theorem d_Mo_usable_1 : decode b_Mo_usable 1 = .ok (.ifCond .lt 27, 3) := by decide +kernel
theorem d_Mo_usable_4 : decode b_Mo_usable 4 = .ok (.aload_n 0, 1) := by decide +kernel
theorem d_Mo_usable_5 : decode b_Mo_usable 5 = .ok (.getfield 29, 3) := by decide +kernel
theorem d_Mo_usable_8 : decode b_Mo_usable 8 = .ok (.iload_n 1, 1) := by decide +kernel
theorem d_Mo_usable_9 : decode b_Mo_usable 9 = .ok (.iaload, 1) := by decide +kernel
theorem d_Mo_usable_10 : decode b_Mo_usable 10 = .ok (.iconst 2, 1) := by decide +kernel
theorem d_Mo_usable_11 : decode b_Mo_usable 11 = .ok (.if_icmp .eq 13, 3) := by decide +kernel
theorem d_Mo_usable_14 : decode b_Mo_usable 14 = .ok (.aload_n 0, 1) := by decide +kernel
theorem d_Mo_usable_15 : decode b_Mo_usable 15 = .ok (.getfield 29, 3) := by decide +kernel
theorem d_Mo_usable_18 : decode b_Mo_usable 18 = .ok (.iload_n 1, 1) := by decide +kernel
theorem d_Mo_usable_19 : decode b_Mo_usable 19 = .ok (.iaload, 1) := by decide +kernel
theorem d_Mo_usable_20 : decode b_Mo_usable 20 = .ok (.iconst 3, 1) := by decide +kernel
theorem d_Mo_usable_21 : decode b_Mo_usable 21 = .ok (.if_icmp .ne 7, 3) := by decide +kernel
theorem d_Mo_usable_24 : decode b_Mo_usable 24 = .ok (.iconst 1, 1) := by decide +kernel
theorem d_Mo_usable_25 : decode b_Mo_usable 25 = .ok (.goto 4, 3) := by decide +kernel
theorem d_Mo_usable_28 : decode b_Mo_usable 28 = .ok (.iconst 0, 1) := by decide +kernel
theorem d_Mo_usable_29 : decode b_Mo_usable 29 = .ok (.ireturn, 1) := by decide +kernel
theorem d_Mo_told_0 : decode b_Mo_told 0 = .ok (.aload_n 0, 1) := by decide +kernel
theorem d_Mo_told_1 : decode b_Mo_told 1 = .ok (.aload_n 0, 1) := by decide +kernel
theorem d_Mo_told_2 : decode b_Mo_told 2 = .ok (.iload_n 1, 1) := by decide +kernel
theorem d_Mo_told_3 : decode b_Mo_told 3 = .ok (.invokevirtual 186, 3) := by decide +kernel
theorem d_Mo_told_6 : decode b_Mo_told 6 = .ok (.ifCond .eq 21, 3) := by decide +kernel
theorem d_Mo_told_9 : decode b_Mo_told 9 = .ok (.aload_n 0, 1) := by decide +kernel
theorem d_Mo_told_10 : decode b_Mo_told 10 = .ok (.iload_n 2, 1) := by decide +kernel
theorem d_Mo_told_11 : decode b_Mo_told 11 = .ok (.invokevirtual 167, 3) := by decide +kernel
theorem d_Mo_told_14 : decode b_Mo_told 14 = .ok (.ifCond .eq 13, 3) := by decide +kernel
theorem d_Mo_told_17 : decode b_Mo_told 17 = .ok (.iload_n 3, 1) := by decide +kernel
theorem d_Mo_told_18 : decode b_Mo_told 18 = .ok (.ifCond .lt 9, 3) := by decide +kernel
theorem d_Mo_told_21 : decode b_Mo_told 21 = .ok (.iload_n 3, 1) := by decide +kernel
theorem d_Mo_told_22 : decode b_Mo_told 22 = .ok (.bipush 7, 2) := by decide +kernel
theorem d_Mo_told_24 : decode b_Mo_told 24 = .ok (.if_icmp .le 7, 3) := by decide +kernel
theorem d_Mo_told_27 : decode b_Mo_told 27 = .ok (.iconst 1, 1) := by decide +kernel
theorem d_Mo_told_28 : decode b_Mo_told 28 = .ok (.goto 15, 3) := by decide +kernel
theorem d_Mo_told_31 : decode b_Mo_told 31 = .ok (.aload_n 0, 1) := by decide +kernel
theorem d_Mo_told_32 : decode b_Mo_told 32 = .ok (.getfield 107, 3) := by decide +kernel
theorem d_Mo_told_35 : decode b_Mo_told 35 = .ok (.ifCond .eq 7, 3) := by decide +kernel
theorem d_Mo_told_38 : decode b_Mo_told 38 = .ok (.iconst 2, 1) := by decide +kernel
theorem d_Mo_told_39 : decode b_Mo_told 39 = .ok (.goto 4, 3) := by decide +kernel
theorem d_Mo_told_42 : decode b_Mo_told 42 = .ok (.iconst 0, 1) := by decide +kernel
theorem d_Mo_told_43 : decode b_Mo_told 43 = .ok (.putfield 85, 3) := by decide +kernel
theorem d_Mo_told_46 : decode b_Mo_told 46 = .ok (.aload_n 0, 1) := by decide +kernel
theorem d_Mo_told_47 : decode b_Mo_told 47 = .ok (.getfield 85, 3) := by decide +kernel
theorem d_Mo_told_50 : decode b_Mo_told 50 = .ok (.ifCond .eq 4, 3) := by decide +kernel
theorem d_Mo_told_53 : decode b_Mo_told 53 = .ok (.return_, 1) := by decide +kernel
theorem d_Mo_told_54 : decode b_Mo_told 54 = .ok (.aload_n 0, 1) := by decide +kernel
theorem d_Mo_told_55 : decode b_Mo_told 55 = .ok (.iload_n 1, 1) := by decide +kernel
theorem d_Mo_told_56 : decode b_Mo_told 56 = .ok (.invokevirtual 180, 3) := by decide +kernel
theorem d_Mo_told_59 : decode b_Mo_told 59 = .ok (.istore 4, 2) := by decide +kernel
theorem d_Mo_told_61 : decode b_Mo_told 61 = .ok (.iload 4, 2) := by decide +kernel
theorem d_Mo_told_63 : decode b_Mo_told 63 = .ok (.ifCond .lt 21, 3) := by decide +kernel
theorem d_Mo_told_66 : decode b_Mo_told 66 = .ok (.aload_n 0, 1) := by decide +kernel
theorem d_Mo_told_67 : decode b_Mo_told 67 = .ok (.getfield 29, 3) := by decide +kernel
theorem d_Mo_told_70 : decode b_Mo_told 70 = .ok (.iload 4, 2) := by decide +kernel
theorem d_Mo_told_72 : decode b_Mo_told 72 = .ok (.iaload, 1) := by decide +kernel
theorem d_Mo_told_73 : decode b_Mo_told 73 = .ok (.iconst 1, 1) := by decide +kernel
theorem d_Mo_told_74 : decode b_Mo_told 74 = .ok (.if_icmp .ne 10, 3) := by decide +kernel
theorem d_Mo_told_77 : decode b_Mo_told 77 = .ok (.aload_n 0, 1) := by decide +kernel
theorem d_Mo_told_78 : decode b_Mo_told 78 = .ok (.iload 4, 2) := by decide +kernel
theorem d_Mo_told_80 : decode b_Mo_told 80 = .ok (.invokevirtual 189, 3) := by decide +kernel
theorem d_Mo_told_83 : decode b_Mo_told 83 = .ok (.return_, 1) := by decide +kernel
theorem d_Mo_told_84 : decode b_Mo_told 84 = .ok (.aload_n 0, 1) := by decide +kernel
theorem d_Mo_told_85 : decode b_Mo_told 85 = .ok (.iload_n 1, 1) := by decide +kernel
theorem d_Mo_told_86 : decode b_Mo_told 86 = .ok (.invokevirtual 132, 3) := by decide +kernel
theorem d_Mo_told_89 : decode b_Mo_told 89 = .ok (.istore 5, 2) := by decide +kernel
theorem d_Mo_told_91 : decode b_Mo_told 91 = .ok (.iload 5, 2) := by decide +kernel
theorem d_Mo_told_93 : decode b_Mo_told 93 = .ok (.ifCond .ge 4, 3) := by decide +kernel
theorem d_Mo_told_96 : decode b_Mo_told 96 = .ok (.return_, 1) := by decide +kernel
theorem d_Mo_told_97 : decode b_Mo_told 97 = .ok (.iload_n 3, 1) := by decide +kernel
theorem d_Mo_told_98 : decode b_Mo_told 98 = .ok (.iconst 2, 1) := by decide +kernel
theorem d_Mo_told_99 : decode b_Mo_told 99 = .ok (.iand, 1) := by decide +kernel
theorem d_Mo_told_100 : decode b_Mo_told 100 = .ok (.iconst 2, 1) := by decide +kernel
theorem d_Mo_told_101 : decode b_Mo_told 101 = .ok (.if_icmp .ne 7, 3) := by decide +kernel
theorem d_Mo_told_104 : decode b_Mo_told 104 = .ok (.iconst 1, 1) := by decide +kernel
theorem d_Mo_told_105 : decode b_Mo_told 105 = .ok (.goto 4, 3) := by decide +kernel
theorem d_Mo_told_108 : decode b_Mo_told 108 = .ok (.iconst 0, 1) := by decide +kernel
theorem d_Mo_told_109 : decode b_Mo_told 109 = .ok (.istore 6, 2) := by decide +kernel
theorem d_Mo_told_111 : decode b_Mo_told 111 = .ok (.aload_n 0, 1) := by decide +kernel
theorem d_Mo_told_112 : decode b_Mo_told 112 = .ok (.getfield 44, 3) := by decide +kernel
theorem d_Mo_told_115 : decode b_Mo_told 115 = .ok (.iload 5, 2) := by decide +kernel
theorem d_Mo_told_117 : decode b_Mo_told 117 = .ok (.iaload, 1) := by decide +kernel
theorem d_Mo_told_118 : decode b_Mo_told 118 = .ok (.iload_n 2, 1) := by decide +kernel
theorem d_Mo_told_119 : decode b_Mo_told 119 = .ok (.if_icmp .eq 7, 3) := by decide +kernel
theorem d_Mo_told_122 : decode b_Mo_told 122 = .ok (.iconst 1, 1) := by decide +kernel
theorem d_Mo_told_123 : decode b_Mo_told 123 = .ok (.goto 4, 3) := by decide +kernel
theorem d_Mo_told_126 : decode b_Mo_told 126 = .ok (.iconst 0, 1) := by decide +kernel
theorem d_Mo_told_127 : decode b_Mo_told 127 = .ok (.istore 7, 2) := by decide +kernel
theorem d_Mo_told_129 : decode b_Mo_told 129 = .ok (.aload_n 0, 1) := by decide +kernel
theorem d_Mo_told_130 : decode b_Mo_told 130 = .ok (.getfield 51, 3) := by decide +kernel
theorem d_Mo_told_133 : decode b_Mo_told 133 = .ok (.iload 5, 2) := by decide +kernel
theorem d_Mo_told_135 : decode b_Mo_told 135 = .ok (.iaload, 1) := by decide +kernel
theorem d_Mo_told_136 : decode b_Mo_told 136 = .ok (.iconst 1, 1) := by decide +kernel
theorem d_Mo_told_137 : decode b_Mo_told 137 = .ok (.if_icmp .ne 54, 3) := by decide +kernel
theorem d_Mo_told_140 : decode b_Mo_told 140 = .ok (.aload_n 0, 1) := by decide +kernel
theorem d_Mo_told_141 : decode b_Mo_told 141 = .ok (.getfield 44, 3) := by decide +kernel
theorem d_Mo_told_144 : decode b_Mo_told 144 = .ok (.iload 5, 2) := by decide +kernel
theorem d_Mo_told_146 : decode b_Mo_told 146 = .ok (.iload_n 2, 1) := by decide +kernel
theorem d_Mo_told_147 : decode b_Mo_told 147 = .ok (.iastore, 1) := by decide +kernel
theorem d_Mo_told_148 : decode b_Mo_told 148 = .ok (.aload_n 0, 1) := by decide +kernel
theorem d_Mo_told_149 : decode b_Mo_told 149 = .ok (.iload 5, 2) := by decide +kernel
theorem d_Mo_told_151 : decode b_Mo_told 151 = .ok (.iload 6, 2) := by decide +kernel
theorem d_Mo_told_153 : decode b_Mo_told 153 = .ok (.ifCond .eq 7, 3) := by decide +kernel
theorem d_Mo_told_156 : decode b_Mo_told 156 = .ok (.iconst 2, 1) := by decide +kernel
theorem d_Mo_told_157 : decode b_Mo_told 157 = .ok (.goto 4, 3) := by decide +kernel
theorem d_Mo_told_160 : decode b_Mo_told 160 = .ok (.iconst 3, 1) := by decide +kernel
theorem d_Mo_told_161 : decode b_Mo_told 161 = .ok (.invokevirtual 125, 3) := by decide +kernel
theorem d_Mo_told_164 : decode b_Mo_told 164 = .ok (.aload_n 0, 1) := by decide +kernel
theorem d_Mo_told_165 : decode b_Mo_told 165 = .ok (.iload 5, 2) := by decide +kernel
theorem d_Mo_told_167 : decode b_Mo_told 167 = .ok (.invokevirtual 139, 3) := by decide +kernel
theorem d_Mo_told_170 : decode b_Mo_told 170 = .ok (.aload_n 0, 1) := by decide +kernel
theorem d_Mo_told_171 : decode b_Mo_told 171 = .ok (.iload 5, 2) := by decide +kernel
theorem d_Mo_told_173 : decode b_Mo_told 173 = .ok (.iload_n 3, 1) := by decide +kernel
theorem d_Mo_told_174 : decode b_Mo_told 174 = .ok (.iconst 1, 1) := by decide +kernel
theorem d_Mo_told_175 : decode b_Mo_told 175 = .ok (.iand, 1) := by decide +kernel
theorem d_Mo_told_176 : decode b_Mo_told 176 = .ok (.iconst 1, 1) := by decide +kernel
theorem d_Mo_told_177 : decode b_Mo_told 177 = .ok (.if_icmp .ne 7, 3) := by decide +kernel
theorem d_Mo_told_180 : decode b_Mo_told 180 = .ok (.iconst 1, 1) := by decide +kernel
theorem d_Mo_told_181 : decode b_Mo_told 181 = .ok (.goto 4, 3) := by decide +kernel
theorem d_Mo_told_184 : decode b_Mo_told 184 = .ok (.iconst 0, 1) := by decide +kernel
theorem d_Mo_told_185 : decode b_Mo_told 185 = .ok (.invokevirtual 195, 3) := by decide +kernel
theorem d_Mo_told_188 : decode b_Mo_told 188 = .ok (.goto 88, 3) := by decide +kernel
theorem d_Mo_told_191 : decode b_Mo_told 191 = .ok (.iload 7, 2) := by decide +kernel
theorem d_Mo_told_193 : decode b_Mo_told 193 = .ok (.ifCond .eq 30, 3) := by decide +kernel
theorem d_Mo_told_196 : decode b_Mo_told 196 = .ok (.iload_n 3, 1) := by decide +kernel
theorem d_Mo_told_197 : decode b_Mo_told 197 = .ok (.iconst 4, 1) := by decide +kernel
theorem d_Mo_told_198 : decode b_Mo_told 198 = .ok (.iand, 1) := by decide +kernel
theorem d_Mo_told_199 : decode b_Mo_told 199 = .ok (.ifCond .ne 24, 3) := by decide +kernel
theorem d_Mo_told_202 : decode b_Mo_told 202 = .ok (.aload_n 0, 1) := by decide +kernel
theorem d_Mo_told_203 : decode b_Mo_told 203 = .ok (.getfield 51, 3) := by decide +kernel
theorem d_Mo_told_206 : decode b_Mo_told 206 = .ok (.iload 5, 2) := by decide +kernel
theorem d_Mo_told_208 : decode b_Mo_told 208 = .ok (.iaload, 1) := by decide +kernel
theorem d_Mo_told_209 : decode b_Mo_told 209 = .ok (.iconst 2, 1) := by decide +kernel
theorem d_Mo_told_210 : decode b_Mo_told 210 = .ok (.if_icmp .ne 66, 3) := by decide +kernel
theorem d_Mo_told_213 : decode b_Mo_told 213 = .ok (.aload_n 0, 1) := by decide +kernel
theorem d_Mo_told_214 : decode b_Mo_told 214 = .ok (.iload 5, 2) := by decide +kernel
theorem d_Mo_told_216 : decode b_Mo_told 216 = .ok (.iconst 3, 1) := by decide +kernel
theorem d_Mo_told_217 : decode b_Mo_told 217 = .ok (.invokevirtual 125, 3) := by decide +kernel
theorem d_Mo_told_220 : decode b_Mo_told 220 = .ok (.goto 56, 3) := by decide +kernel
theorem d_Mo_told_223 : decode b_Mo_told 223 = .ok (.aload_n 0, 1) := by decide +kernel
theorem d_Mo_told_224 : decode b_Mo_told 224 = .ok (.getfield 44, 3) := by decide +kernel
theorem d_Mo_told_227 : decode b_Mo_told 227 = .ok (.iload 5, 2) := by decide +kernel
theorem d_Mo_told_229 : decode b_Mo_told 229 = .ok (.iload_n 2, 1) := by decide +kernel
theorem d_Mo_told_230 : decode b_Mo_told 230 = .ok (.iastore, 1) := by decide +kernel
theorem d_Mo_told_231 : decode b_Mo_told 231 = .ok (.iload 6, 2) := by decide +kernel
theorem d_Mo_told_233 : decode b_Mo_told 233 = .ok (.ifCond .eq 13, 3) := by decide +kernel
theorem d_Mo_told_236 : decode b_Mo_told 236 = .ok (.aload_n 0, 1) := by decide +kernel
theorem d_Mo_told_237 : decode b_Mo_told 237 = .ok (.iload 5, 2) := by decide +kernel
theorem d_Mo_told_239 : decode b_Mo_told 239 = .ok (.iconst 2, 1) := by decide +kernel
theorem d_Mo_told_240 : decode b_Mo_told 240 = .ok (.invokevirtual 125, 3) := by decide +kernel
theorem d_Mo_told_243 : decode b_Mo_told 243 = .ok (.goto 15, 3) := by decide +kernel
theorem d_Mo_told_246 : decode b_Mo_told 246 = .ok (.iload 7, 2) := by decide +kernel
theorem d_Mo_told_248 : decode b_Mo_told 248 = .ok (.ifCond .eq 10, 3) := by decide +kernel
theorem d_Mo_told_251 : decode b_Mo_told 251 = .ok (.aload_n 0, 1) := by decide +kernel
theorem d_Mo_told_252 : decode b_Mo_told 252 = .ok (.iload 5, 2) := by decide +kernel
theorem d_Mo_told_254 : decode b_Mo_told 254 = .ok (.iconst 3, 1) := by decide +kernel
theorem d_Mo_told_255 : decode b_Mo_told 255 = .ok (.invokevirtual 125, 3) := by decide +kernel
theorem d_Mo_told_258 : decode b_Mo_told 258 = .ok (.aload_n 0, 1) := by decide +kernel
theorem d_Mo_told_259 : decode b_Mo_told 259 = .ok (.iload 5, 2) := by decide +kernel
theorem d_Mo_told_261 : decode b_Mo_told 261 = .ok (.iload_n 3, 1) := by decide +kernel
theorem d_Mo_told_262 : decode b_Mo_told 262 = .ok (.iconst 1, 1) := by decide +kernel
theorem d_Mo_told_263 : decode b_Mo_told 263 = .ok (.iand, 1) := by decide +kernel
theorem d_Mo_told_264 : decode b_Mo_told 264 = .ok (.iconst 1, 1) := by decide +kernel
theorem d_Mo_told_265 : decode b_Mo_told 265 = .ok (.if_icmp .ne 7, 3) := by decide +kernel
theorem d_Mo_told_268 : decode b_Mo_told 268 = .ok (.iconst 1, 1) := by decide +kernel
theorem d_Mo_told_269 : decode b_Mo_told 269 = .ok (.goto 4, 3) := by decide +kernel
theorem d_Mo_told_272 : decode b_Mo_told 272 = .ok (.iconst 0, 1) := by decide +kernel
theorem d_Mo_told_273 : decode b_Mo_told 273 = .ok (.invokevirtual 195, 3) := by decide +kernel
theorem d_Mo_told_276 : decode b_Mo_told 276 = .ok (.return_, 1) := by decide +kernel
theorem d_Mo_route_0 : decode b_Mo_route 0 = .ok (.aload_n 0, 1) := by decide +kernel
theorem d_Mo_route_1 : decode b_Mo_route 1 = .ok (.getfield 47, 3) := by decide +kernel
theorem d_Mo_route_4 : decode b_Mo_route 4 = .ok (.iload_n 1, 1) := by decide +kernel
theorem d_Mo_route_5 : decode b_Mo_route 5 = .ok (.baload, 1) := by decide +kernel
theorem d_Mo_route_6 : decode b_Mo_route 6 = .ok (.ifCond .eq 18, 3) := by decide +kernel
theorem d_Mo_route_9 : decode b_Mo_route 9 = .ok (.iload_n 2, 1) := by decide +kernel
theorem d_Mo_route_10 : decode b_Mo_route 10 = .ok (.ifCond .ne 14, 3) := by decide +kernel
theorem d_Mo_route_13 : decode b_Mo_route 13 = .ok (.aload_n 0, 1) := by decide +kernel
theorem d_Mo_route_14 : decode b_Mo_route 14 = .ok (.iconst 0, 1) := by decide +kernel
theorem d_Mo_route_15 : decode b_Mo_route 15 = .ok (.aload_n 0, 1) := by decide +kernel
theorem d_Mo_route_16 : decode b_Mo_route 16 = .ok (.getfield 41, 3) := by decide +kernel
theorem d_Mo_route_19 : decode b_Mo_route 19 = .ok (.iload_n 1, 1) := by decide +kernel
theorem d_Mo_route_20 : decode b_Mo_route 20 = .ok (.iaload, 1) := by decide +kernel
theorem d_Mo_route_21 : decode b_Mo_route 21 = .ok (.invokevirtual 173, 3) := by decide +kernel
theorem d_Mo_route_24 : decode b_Mo_route 24 = .ok (.aload_n 0, 1) := by decide +kernel
theorem d_Mo_route_25 : decode b_Mo_route 25 = .ok (.getfield 47, 3) := by decide +kernel
theorem d_Mo_route_28 : decode b_Mo_route 28 = .ok (.iload_n 1, 1) := by decide +kernel
theorem d_Mo_route_29 : decode b_Mo_route 29 = .ok (.iload_n 2, 1) := by decide +kernel
theorem d_Mo_route_30 : decode b_Mo_route 30 = .ok (.bastore, 1) := by decide +kernel
theorem d_Mo_route_31 : decode b_Mo_route 31 = .ok (.return_, 1) := by decide +kernel
theorem d_Mo_send_0 : decode b_Mo_send 0 = .ok (.aload_n 0, 1) := by decide +kernel
theorem d_Mo_send_1 : decode b_Mo_send 1 = .ok (.aload_n 0, 1) := by decide +kernel
theorem d_Mo_send_2 : decode b_Mo_send 2 = .ok (.iload_n 1, 1) := by decide +kernel
theorem d_Mo_send_3 : decode b_Mo_send 3 = .ok (.invokevirtual 186, 3) := by decide +kernel
theorem d_Mo_send_6 : decode b_Mo_send 6 = .ok (.ifCond .eq 14, 3) := by decide +kernel
theorem d_Mo_send_9 : decode b_Mo_send 9 = .ok (.iload_n 2, 1) := by decide +kernel
theorem d_Mo_send_10 : decode b_Mo_send 10 = .ok (.iconst 1, 1) := by decide +kernel
theorem d_Mo_send_11 : decode b_Mo_send 11 = .ok (.if_icmp .lt 9, 3) := by decide +kernel
theorem d_Mo_send_14 : decode b_Mo_send 14 = .ok (.iload_n 2, 1) := by decide +kernel
theorem d_Mo_send_15 : decode b_Mo_send 15 = .ok (.bipush 40, 2) := by decide +kernel
theorem d_Mo_send_17 : decode b_Mo_send 17 = .ok (.if_icmp .le 7, 3) := by decide +kernel
theorem d_Mo_send_20 : decode b_Mo_send 20 = .ok (.iconst 1, 1) := by decide +kernel
theorem d_Mo_send_21 : decode b_Mo_send 21 = .ok (.goto 15, 3) := by decide +kernel
theorem d_Mo_send_24 : decode b_Mo_send 24 = .ok (.aload_n 0, 1) := by decide +kernel
theorem d_Mo_send_25 : decode b_Mo_send 25 = .ok (.getfield 107, 3) := by decide +kernel
theorem d_Mo_send_28 : decode b_Mo_send 28 = .ok (.ifCond .eq 7, 3) := by decide +kernel
theorem d_Mo_send_31 : decode b_Mo_send 31 = .ok (.iconst 2, 1) := by decide +kernel
theorem d_Mo_send_32 : decode b_Mo_send 32 = .ok (.goto 4, 3) := by decide +kernel
theorem d_Mo_send_35 : decode b_Mo_send 35 = .ok (.iconst 0, 1) := by decide +kernel
theorem d_Mo_send_36 : decode b_Mo_send 36 = .ok (.putfield 85, 3) := by decide +kernel
theorem d_Mo_send_39 : decode b_Mo_send 39 = .ok (.aload_n 0, 1) := by decide +kernel
theorem d_Mo_send_40 : decode b_Mo_send 40 = .ok (.getfield 85, 3) := by decide +kernel
theorem d_Mo_send_43 : decode b_Mo_send 43 = .ok (.ifCond .eq 5, 3) := by decide +kernel
theorem d_Mo_send_46 : decode b_Mo_send 46 = .ok (.iconst 0, 1) := by decide +kernel
theorem d_Mo_send_47 : decode b_Mo_send 47 = .ok (.ireturn, 1) := by decide +kernel
theorem d_Mo_send_48 : decode b_Mo_send 48 = .ok (.iconst 0, 1) := by decide +kernel
theorem d_Mo_send_49 : decode b_Mo_send 49 = .ok (.istore_n 3, 1) := by decide +kernel
theorem d_Mo_send_50 : decode b_Mo_send 50 = .ok (.iconst 0, 1) := by decide +kernel
theorem d_Mo_send_51 : decode b_Mo_send 51 = .ok (.istore 4, 2) := by decide +kernel
theorem d_Mo_send_53 : decode b_Mo_send 53 = .ok (.iload 4, 2) := by decide +kernel
theorem d_Mo_send_55 : decode b_Mo_send 55 = .ok (.aload_n 0, 1) := by decide +kernel
theorem d_Mo_send_56 : decode b_Mo_send 56 = .ok (.getfield 96, 3) := by decide +kernel
theorem d_Mo_send_59 : decode b_Mo_send 59 = .ok (.if_icmp .ge 47, 3) := by decide +kernel
theorem d_Mo_send_62 : decode b_Mo_send 62 = .ok (.iload_n 3, 1) := by decide +kernel
theorem d_Mo_send_63 : decode b_Mo_send 63 = .ok (.ifCond .ne 31, 3) := by decide +kernel
theorem d_Mo_send_66 : decode b_Mo_send 66 = .ok (.aload_n 0, 1) := by decide +kernel
theorem d_Mo_send_67 : decode b_Mo_send 67 = .ok (.iload 4, 2) := by decide +kernel
theorem d_Mo_send_69 : decode b_Mo_send 69 = .ok (.invokevirtual 192, 3) := by decide +kernel
theorem d_Mo_send_72 : decode b_Mo_send 72 = .ok (.ifCond .eq 26, 3) := by decide +kernel
theorem d_Mo_send_75 : decode b_Mo_send 75 = .ok (.aload_n 0, 1) := by decide +kernel
theorem d_Mo_send_76 : decode b_Mo_send 76 = .ok (.aload_n 0, 1) := by decide +kernel
theorem d_Mo_send_77 : decode b_Mo_send 77 = .ok (.getfield 26, 3) := by decide +kernel
theorem d_Mo_send_80 : decode b_Mo_send 80 = .ok (.iload 4, 2) := by decide +kernel
theorem d_Mo_send_82 : decode b_Mo_send 82 = .ok (.iaload, 1) := by decide +kernel
theorem d_Mo_send_83 : decode b_Mo_send 83 = .ok (.invokevirtual 111, 3) := by decide +kernel
theorem d_Mo_send_86 : decode b_Mo_send 86 = .ok (.aload_n 0, 1) := by decide +kernel
theorem d_Mo_send_87 : decode b_Mo_send 87 = .ok (.iload_n 1, 1) := by decide +kernel
theorem d_Mo_send_88 : decode b_Mo_send 88 = .ok (.invokevirtual 111, 3) := by decide +kernel
theorem d_Mo_send_91 : decode b_Mo_send 91 = .ok (.if_icmp .ne 7, 3) := by decide +kernel
theorem d_Mo_send_94 : decode b_Mo_send 94 = .ok (.iconst 1, 1) := by decide +kernel
theorem d_Mo_send_95 : decode b_Mo_send 95 = .ok (.goto 4, 3) := by decide +kernel
theorem d_Mo_send_98 : decode b_Mo_send 98 = .ok (.iconst 0, 1) := by decide +kernel
theorem d_Mo_send_99 : decode b_Mo_send 99 = .ok (.istore_n 3, 1) := by decide +kernel
theorem d_Mo_send_100 : decode b_Mo_send 100 = .ok (.iinc 4 1, 3) := by decide +kernel
theorem d_Mo_send_103 : decode b_Mo_send 103 = .ok (.goto (-50), 3) := by decide +kernel
theorem d_Mo_send_106 : decode b_Mo_send 106 = .ok (.iload_n 3, 1) := by decide +kernel
theorem d_Mo_send_107 : decode b_Mo_send 107 = .ok (.ifCond .ne 5, 3) := by decide +kernel
theorem d_Mo_send_110 : decode b_Mo_send 110 = .ok (.iconst 4, 1) := by decide +kernel
theorem d_Mo_send_111 : decode b_Mo_send 111 = .ok (.ireturn, 1) := by decide +kernel
theorem d_Mo_send_112 : decode b_Mo_send 112 = .ok (.iload_n 2, 1) := by decide +kernel
theorem d_Mo_send_113 : decode b_Mo_send 113 = .ok (.aload_n 0, 1) := by decide +kernel
theorem d_Mo_send_114 : decode b_Mo_send 114 = .ok (.iload_n 1, 1) := by decide +kernel
theorem d_Mo_send_115 : decode b_Mo_send 115 = .ok (.invokevirtual 199, 3) := by decide +kernel
theorem d_Mo_send_118 : decode b_Mo_send 118 = .ok (.if_icmp .le 5, 3) := by decide +kernel
theorem d_Mo_send_121 : decode b_Mo_send 121 = .ok (.iconst 2, 1) := by decide +kernel
theorem d_Mo_send_122 : decode b_Mo_send 122 = .ok (.ireturn, 1) := by decide +kernel
theorem d_Mo_send_123 : decode b_Mo_send 123 = .ok (.aload_n 0, 1) := by decide +kernel
theorem d_Mo_send_124 : decode b_Mo_send 124 = .ok (.iload_n 1, 1) := by decide +kernel
theorem d_Mo_send_125 : decode b_Mo_send 125 = .ok (.invokevirtual 111, 3) := by decide +kernel
theorem d_Mo_send_128 : decode b_Mo_send 128 = .ok (.ifCond .ne 16, 3) := by decide +kernel
theorem d_Mo_send_131 : decode b_Mo_send 131 = .ok (.aload_n 0, 1) := by decide +kernel
theorem d_Mo_send_132 : decode b_Mo_send 132 = .ok (.iconst 1, 1) := by decide +kernel
theorem d_Mo_send_133 : decode b_Mo_send 133 = .ok (.iload_n 1, 1) := by decide +kernel
theorem d_Mo_send_134 : decode b_Mo_send 134 = .ok (.sipush 256, 3) := by decide +kernel
theorem d_Mo_send_137 : decode b_Mo_send 137 = .ok (.idiv, 1) := by decide +kernel
theorem d_Mo_send_138 : decode b_Mo_send 138 = .ok (.invokevirtual 151, 3) := by decide +kernel
theorem d_Mo_send_141 : decode b_Mo_send 141 = .ok (.ifCond .lt 7, 3) := by decide +kernel
theorem d_Mo_send_144 : decode b_Mo_send 144 = .ok (.iconst 1, 1) := by decide +kernel
theorem d_Mo_send_145 : decode b_Mo_send 145 = .ok (.goto 4, 3) := by decide +kernel
theorem d_Mo_send_148 : decode b_Mo_send 148 = .ok (.iconst 0, 1) := by decide +kernel
theorem d_Mo_send_149 : decode b_Mo_send 149 = .ok (.istore 4, 2) := by decide +kernel
theorem d_Mo_send_151 : decode b_Mo_send 151 = .ok (.iload 4, 2) := by decide +kernel
theorem d_Mo_send_153 : decode b_Mo_send 153 = .ok (.ifCond .ne 14, 3) := by decide +kernel
theorem d_Mo_send_156 : decode b_Mo_send 156 = .ok (.aload_n 0, 1) := by decide +kernel
theorem d_Mo_send_157 : decode b_Mo_send 157 = .ok (.getfield 60, 3) := by decide +kernel
theorem d_Mo_send_160 : decode b_Mo_send 160 = .ok (.iconst 0, 1) := by decide +kernel
theorem d_Mo_send_161 : decode b_Mo_send 161 = .ok (.iaload, 1) := by decide +kernel
theorem d_Mo_send_162 : decode b_Mo_send 162 = .ok (.ifCond .ne 5, 3) := by decide +kernel
theorem d_Mo_send_165 : decode b_Mo_send 165 = .ok (.iconst 3, 1) := by decide +kernel
theorem d_Mo_send_166 : decode b_Mo_send 166 = .ok (.ireturn, 1) := by decide +kernel
theorem d_Mo_send_167 : decode b_Mo_send 167 = .ok (.iload 4, 2) := by decide +kernel
theorem d_Mo_send_169 : decode b_Mo_send 169 = .ok (.ifCond .eq 7, 3) := by decide +kernel
theorem d_Mo_send_172 : decode b_Mo_send 172 = .ok (.iload_n 1, 1) := by decide +kernel
theorem d_Mo_send_173 : decode b_Mo_send 173 = .ok (.goto 7, 3) := by decide +kernel
theorem d_Mo_send_176 : decode b_Mo_send 176 = .ok (.aload_n 0, 1) := by decide +kernel
theorem d_Mo_send_177 : decode b_Mo_send 177 = .ok (.invokevirtual 202, 3) := by decide +kernel
theorem d_Mo_send_180 : decode b_Mo_send 180 = .ok (.istore 5, 2) := by decide +kernel
theorem d_Mo_send_182 : decode b_Mo_send 182 = .ok (.aload_n 0, 1) := by decide +kernel
theorem d_Mo_send_183 : decode b_Mo_send 183 = .ok (.iload 5, 2) := by decide +kernel
theorem d_Mo_send_185 : decode b_Mo_send 185 = .ok (.invokevirtual 132, 3) := by decide +kernel
theorem d_Mo_send_188 : decode b_Mo_send 188 = .ok (.istore 6, 2) := by decide +kernel
theorem d_Mo_send_190 : decode b_Mo_send 190 = .ok (.iload 6, 2) := by decide +kernel
theorem d_Mo_send_192 : decode b_Mo_send 192 = .ok (.ifCond .ge 19, 3) := by decide +kernel
theorem d_Mo_send_195 : decode b_Mo_send 195 = .ok (.aload_n 0, 1) := by decide +kernel
theorem d_Mo_send_196 : decode b_Mo_send 196 = .ok (.iload 5, 2) := by decide +kernel
theorem d_Mo_send_198 : decode b_Mo_send 198 = .ok (.iconst 1, 1) := by decide +kernel
theorem d_Mo_send_199 : decode b_Mo_send 199 = .ok (.iconst 0, 1) := by decide +kernel
theorem d_Mo_send_200 : decode b_Mo_send 200 = .ok (.invokevirtual 135, 3) := by decide +kernel
theorem d_Mo_send_203 : decode b_Mo_send 203 = .ok (.istore 6, 2) := by decide +kernel
theorem d_Mo_send_205 : decode b_Mo_send 205 = .ok (.aload_n 0, 1) := by decide +kernel
theorem d_Mo_send_206 : decode b_Mo_send 206 = .ok (.iload 6, 2) := by decide +kernel
theorem d_Mo_send_208 : decode b_Mo_send 208 = .ok (.invokevirtual 145, 3) := by decide +kernel
theorem d_Mo_send_211 : decode b_Mo_send 211 = .ok (.aload_n 0, 1) := by decide +kernel
theorem d_Mo_send_212 : decode b_Mo_send 212 = .ok (.getfield 51, 3) := by decide +kernel
theorem d_Mo_send_215 : decode b_Mo_send 215 = .ok (.iload 6, 2) := by decide +kernel
theorem d_Mo_send_217 : decode b_Mo_send 217 = .ok (.iaload, 1) := by decide +kernel
theorem d_Mo_send_218 : decode b_Mo_send 218 = .ok (.iconst 1, 1) := by decide +kernel
theorem d_Mo_send_219 : decode b_Mo_send 219 = .ok (.if_icmp .ne 13, 3) := by decide +kernel
theorem d_Mo_send_222 : decode b_Mo_send 222 = .ok (.aload_n 0, 1) := by decide +kernel
theorem d_Mo_send_223 : decode b_Mo_send 223 = .ok (.getfield 57, 3) := by decide +kernel
theorem d_Mo_send_226 : decode b_Mo_send 226 = .ok (.iload 6, 2) := by decide +kernel
theorem d_Mo_send_228 : decode b_Mo_send 228 = .ok (.iload_n 2, 1) := by decide +kernel
theorem d_Mo_send_229 : decode b_Mo_send 229 = .ok (.iastore, 1) := by decide +kernel
theorem d_Mo_send_230 : decode b_Mo_send 230 = .ok (.iconst 1, 1) := by decide +kernel
theorem d_Mo_send_231 : decode b_Mo_send 231 = .ok (.ireturn, 1) := by decide +kernel
theorem d_Mo_send_232 : decode b_Mo_send 232 = .ok (.aload_n 0, 1) := by decide +kernel
theorem d_Mo_send_233 : decode b_Mo_send 233 = .ok (.iload 6, 2) := by decide +kernel
theorem d_Mo_send_235 : decode b_Mo_send 235 = .ok (.iload_n 2, 1) := by decide +kernel
theorem d_Mo_send_236 : decode b_Mo_send 236 = .ok (.invokevirtual 129, 3) := by decide +kernel
theorem d_Mo_send_239 : decode b_Mo_send 239 = .ok (.iconst 0, 1) := by decide +kernel
theorem d_Mo_send_240 : decode b_Mo_send 240 = .ok (.ireturn, 1) := by decide +kernel
theorem d_Mo_sizeFor_0 : decode b_Mo_sizeFor 0 = .ok (.aload_n 0, 1) := by decide +kernel
theorem d_Mo_sizeFor_1 : decode b_Mo_sizeFor 1 = .ok (.iconst 2, 1) := by decide +kernel
theorem d_Mo_sizeFor_2 : decode b_Mo_sizeFor 2 = .ok (.iload_n 1, 1) := by decide +kernel
theorem d_Mo_sizeFor_3 : decode b_Mo_sizeFor 3 = .ok (.invokevirtual 151, 3) := by decide +kernel
theorem d_Mo_sizeFor_6 : decode b_Mo_sizeFor 6 = .ok (.istore_n 2, 1) := by decide +kernel
theorem d_Mo_sizeFor_7 : decode b_Mo_sizeFor 7 = .ok (.iload_n 2, 1) := by decide +kernel
theorem d_Mo_sizeFor_8 : decode b_Mo_sizeFor 8 = .ok (.ifCond .lt 16, 3) := by decide +kernel
theorem d_Mo_sizeFor_11 : decode b_Mo_sizeFor 11 = .ok (.aload_n 0, 1) := by decide +kernel
theorem d_Mo_sizeFor_12 : decode b_Mo_sizeFor 12 = .ok (.getfield 69, 3) := by decide +kernel
theorem d_Mo_sizeFor_15 : decode b_Mo_sizeFor 15 = .ok (.iload_n 2, 1) := by decide +kernel
theorem d_Mo_sizeFor_16 : decode b_Mo_sizeFor 16 = .ok (.iaload, 1) := by decide +kernel
theorem d_Mo_sizeFor_17 : decode b_Mo_sizeFor 17 = .ok (.aload_n 0, 1) := by decide +kernel
theorem d_Mo_sizeFor_18 : decode b_Mo_sizeFor 18 = .ok (.getfield 7, 3) := by decide +kernel
theorem d_Mo_sizeFor_21 : decode b_Mo_sizeFor 21 = .ok (.if_icmp .le 10, 3) := by decide +kernel
theorem d_Mo_sizeFor_24 : decode b_Mo_sizeFor 24 = .ok (.aload_n 0, 1) := by decide +kernel
theorem d_Mo_sizeFor_25 : decode b_Mo_sizeFor 25 = .ok (.getfield 7, 3) := by decide +kernel
theorem d_Mo_sizeFor_28 : decode b_Mo_sizeFor 28 = .ok (.goto 9, 3) := by decide +kernel
theorem d_Mo_sizeFor_31 : decode b_Mo_sizeFor 31 = .ok (.aload_n 0, 1) := by decide +kernel
theorem d_Mo_sizeFor_32 : decode b_Mo_sizeFor 32 = .ok (.getfield 69, 3) := by decide +kernel
theorem d_Mo_sizeFor_35 : decode b_Mo_sizeFor 35 = .ok (.iload_n 2, 1) := by decide +kernel
theorem d_Mo_sizeFor_36 : decode b_Mo_sizeFor 36 = .ok (.iaload, 1) := by decide +kernel
theorem d_Mo_sizeFor_37 : decode b_Mo_sizeFor 37 = .ok (.ireturn, 1) := by decide +kernel
theorem d_Mo_hop_0 : decode b_Mo_hop 0 = .ok (.iconst 0, 1) := by decide +kernel
theorem d_Mo_hop_1 : decode b_Mo_hop 1 = .ok (.istore_n 1, 1) := by decide +kernel
theorem d_Mo_hop_2 : decode b_Mo_hop 2 = .ok (.iload_n 1, 1) := by decide +kernel
theorem d_Mo_hop_3 : decode b_Mo_hop 3 = .ok (.aload_n 0, 1) := by decide +kernel
theorem d_Mo_hop_4 : decode b_Mo_hop 4 = .ok (.getfield 60, 3) := by decide +kernel
theorem d_Mo_hop_7 : decode b_Mo_hop 7 = .ok (.iconst 0, 1) := by decide +kernel
theorem d_Mo_hop_8 : decode b_Mo_hop 8 = .ok (.iaload, 1) := by decide +kernel
theorem d_Mo_hop_9 : decode b_Mo_hop 9 = .ok (.if_icmp .ge 41, 3) := by decide +kernel
theorem d_Mo_hop_12 : decode b_Mo_hop 12 = .ok (.aload_n 0, 1) := by decide +kernel
theorem d_Mo_hop_13 : decode b_Mo_hop 13 = .ok (.aload_n 0, 1) := by decide +kernel
theorem d_Mo_hop_14 : decode b_Mo_hop 14 = .ok (.getfield 63, 3) := by decide +kernel
theorem d_Mo_hop_17 : decode b_Mo_hop 17 = .ok (.iload_n 1, 1) := by decide +kernel
theorem d_Mo_hop_18 : decode b_Mo_hop 18 = .ok (.iaload, 1) := by decide +kernel
theorem d_Mo_hop_19 : decode b_Mo_hop 19 = .ok (.invokevirtual 132, 3) := by decide +kernel
theorem d_Mo_hop_22 : decode b_Mo_hop 22 = .ok (.istore_n 2, 1) := by decide +kernel
theorem d_Mo_hop_23 : decode b_Mo_hop 23 = .ok (.iload_n 2, 1) := by decide +kernel
theorem d_Mo_hop_24 : decode b_Mo_hop 24 = .ok (.ifCond .lt 20, 3) := by decide +kernel
theorem d_Mo_hop_27 : decode b_Mo_hop 27 = .ok (.aload_n 0, 1) := by decide +kernel
theorem d_Mo_hop_28 : decode b_Mo_hop 28 = .ok (.getfield 51, 3) := by decide +kernel
theorem d_Mo_hop_31 : decode b_Mo_hop 31 = .ok (.iload_n 2, 1) := by decide +kernel
theorem d_Mo_hop_32 : decode b_Mo_hop 32 = .ok (.iaload, 1) := by decide +kernel
theorem d_Mo_hop_33 : decode b_Mo_hop 33 = .ok (.iconst 1, 1) := by decide +kernel
theorem d_Mo_hop_34 : decode b_Mo_hop 34 = .ok (.if_icmp .eq 10, 3) := by decide +kernel
theorem d_Mo_hop_37 : decode b_Mo_hop 37 = .ok (.aload_n 0, 1) := by decide +kernel
theorem d_Mo_hop_38 : decode b_Mo_hop 38 = .ok (.getfield 63, 3) := by decide +kernel
theorem d_Mo_hop_41 : decode b_Mo_hop 41 = .ok (.iload_n 1, 1) := by decide +kernel
theorem d_Mo_hop_42 : decode b_Mo_hop 42 = .ok (.iaload, 1) := by decide +kernel
theorem d_Mo_hop_43 : decode b_Mo_hop 43 = .ok (.ireturn, 1) := by decide +kernel
theorem d_Mo_hop_44 : decode b_Mo_hop 44 = .ok (.iinc 1 1, 3) := by decide +kernel
theorem d_Mo_hop_47 : decode b_Mo_hop 47 = .ok (.goto (-45), 3) := by decide +kernel
theorem d_Mo_hop_50 : decode b_Mo_hop 50 = .ok (.aload_n 0, 1) := by decide +kernel
theorem d_Mo_hop_51 : decode b_Mo_hop 51 = .ok (.getfield 63, 3) := by decide +kernel
theorem d_Mo_hop_54 : decode b_Mo_hop 54 = .ok (.iconst 0, 1) := by decide +kernel
theorem d_Mo_hop_55 : decode b_Mo_hop 55 = .ok (.iaload, 1) := by decide +kernel
theorem d_Mo_hop_56 : decode b_Mo_hop 56 = .ok (.ireturn, 1) := by decide +kernel
theorem d_Mo_smaller_0 : decode b_Mo_smaller 0 = .ok (.aload_n 0, 1) := by decide +kernel
theorem d_Mo_smaller_1 : decode b_Mo_smaller 1 = .ok (.aload_n 0, 1) := by decide +kernel
theorem d_Mo_smaller_2 : decode b_Mo_smaller 2 = .ok (.iload_n 1, 1) := by decide +kernel
theorem d_Mo_smaller_3 : decode b_Mo_smaller 3 = .ok (.invokevirtual 186, 3) := by decide +kernel
theorem d_Mo_smaller_6 : decode b_Mo_smaller 6 = .ok (.ifCond .eq 13, 3) := by decide +kernel
theorem d_Mo_smaller_9 : decode b_Mo_smaller 9 = .ok (.iload_n 2, 1) := by decide +kernel
theorem d_Mo_smaller_10 : decode b_Mo_smaller 10 = .ok (.ifCond .lt 9, 3) := by decide +kernel
theorem d_Mo_smaller_13 : decode b_Mo_smaller 13 = .ok (.iload_n 2, 1) := by decide +kernel
theorem d_Mo_smaller_14 : decode b_Mo_smaller 14 = .ok (.bipush 40, 2) := by decide +kernel
theorem d_Mo_smaller_16 : decode b_Mo_smaller 16 = .ok (.if_icmp .le 7, 3) := by decide +kernel
theorem d_Mo_smaller_19 : decode b_Mo_smaller 19 = .ok (.iconst 1, 1) := by decide +kernel
theorem d_Mo_smaller_20 : decode b_Mo_smaller 20 = .ok (.goto 15, 3) := by decide +kernel
theorem d_Mo_smaller_23 : decode b_Mo_smaller 23 = .ok (.aload_n 0, 1) := by decide +kernel
theorem d_Mo_smaller_24 : decode b_Mo_smaller 24 = .ok (.getfield 107, 3) := by decide +kernel
theorem d_Mo_smaller_27 : decode b_Mo_smaller 27 = .ok (.ifCond .eq 7, 3) := by decide +kernel
theorem d_Mo_smaller_30 : decode b_Mo_smaller 30 = .ok (.iconst 2, 1) := by decide +kernel
theorem d_Mo_smaller_31 : decode b_Mo_smaller 31 = .ok (.goto 4, 3) := by decide +kernel
theorem d_Mo_smaller_34 : decode b_Mo_smaller 34 = .ok (.iconst 0, 1) := by decide +kernel
theorem d_Mo_smaller_35 : decode b_Mo_smaller 35 = .ok (.putfield 85, 3) := by decide +kernel
theorem d_Mo_smaller_38 : decode b_Mo_smaller 38 = .ok (.aload_n 0, 1) := by decide +kernel
theorem d_Mo_smaller_39 : decode b_Mo_smaller 39 = .ok (.getfield 85, 3) := by decide +kernel
theorem d_Mo_smaller_42 : decode b_Mo_smaller 42 = .ok (.ifCond .ne 32, 3) := by decide +kernel
theorem d_Mo_smaller_45 : decode b_Mo_smaller 45 = .ok (.iload_n 2, 1) := by decide +kernel
theorem d_Mo_smaller_46 : decode b_Mo_smaller 46 = .ok (.bipush 8, 2) := by decide +kernel
theorem d_Mo_smaller_48 : decode b_Mo_smaller 48 = .ok (.if_icmp .lt 26, 3) := by decide +kernel
theorem d_Mo_smaller_51 : decode b_Mo_smaller 51 = .ok (.aload_n 0, 1) := by decide +kernel
theorem d_Mo_smaller_52 : decode b_Mo_smaller 52 = .ok (.iload_n 1, 1) := by decide +kernel
theorem d_Mo_smaller_53 : decode b_Mo_smaller 53 = .ok (.invokevirtual 199, 3) := by decide +kernel
theorem d_Mo_smaller_56 : decode b_Mo_smaller 56 = .ok (.iload_n 2, 1) := by decide +kernel
theorem d_Mo_smaller_57 : decode b_Mo_smaller 57 = .ok (.if_icmp .le 17, 3) := by decide +kernel
theorem d_Mo_smaller_60 : decode b_Mo_smaller 60 = .ok (.aload_n 0, 1) := by decide +kernel
theorem d_Mo_smaller_61 : decode b_Mo_smaller 61 = .ok (.iconst 2, 1) := by decide +kernel
theorem d_Mo_smaller_62 : decode b_Mo_smaller 62 = .ok (.iload_n 1, 1) := by decide +kernel
theorem d_Mo_smaller_63 : decode b_Mo_smaller 63 = .ok (.aload_n 0, 1) := by decide +kernel
theorem d_Mo_smaller_64 : decode b_Mo_smaller 64 = .ok (.getfield 89, 3) := by decide +kernel
theorem d_Mo_smaller_67 : decode b_Mo_smaller 67 = .ok (.bipush 30, 2) := by decide +kernel
theorem d_Mo_smaller_69 : decode b_Mo_smaller 69 = .ok (.iadd, 1) := by decide +kernel
theorem d_Mo_smaller_70 : decode b_Mo_smaller 70 = .ok (.iload_n 2, 1) := by decide +kernel
theorem d_Mo_smaller_71 : decode b_Mo_smaller 71 = .ok (.invokevirtual 176, 3) := by decide +kernel
theorem d_Mo_smaller_74 : decode b_Mo_smaller 74 = .ok (.return_, 1) := by decide +kernel
theorem d_Mo_header_0 : decode b_Mo_header 0 = .ok (.aload_n 0, 1) := by decide +kernel
theorem d_Mo_header_1 : decode b_Mo_header 1 = .ok (.iload_n 1, 1) := by decide +kernel
theorem d_Mo_header_2 : decode b_Mo_header 2 = .ok (.ifCond .lt 18, 3) := by decide +kernel
theorem d_Mo_header_5 : decode b_Mo_header 5 = .ok (.iload_n 1, 1) := by decide +kernel
theorem d_Mo_header_6 : decode b_Mo_header 6 = .ok (.bipush 9, 2) := by decide +kernel
theorem d_Mo_header_8 : decode b_Mo_header 8 = .ok (.if_icmp .gt 12, 3) := by decide +kernel
theorem d_Mo_header_11 : decode b_Mo_header 11 = .ok (.iload_n 2, 1) := by decide +kernel
theorem d_Mo_header_12 : decode b_Mo_header 12 = .ok (.ifCond .lt 8, 3) := by decide +kernel
theorem d_Mo_header_15 : decode b_Mo_header 15 = .ok (.iload_n 2, 1) := by decide +kernel
theorem d_Mo_header_16 : decode b_Mo_header 16 = .ok (.iconst 3, 1) := by decide +kernel
theorem d_Mo_header_17 : decode b_Mo_header 17 = .ok (.if_icmp .le 7, 3) := by decide +kernel
theorem d_Mo_header_20 : decode b_Mo_header 20 = .ok (.iconst 1, 1) := by decide +kernel
theorem d_Mo_header_21 : decode b_Mo_header 21 = .ok (.goto 17, 3) := by decide +kernel
theorem d_Mo_header_24 : decode b_Mo_header 24 = .ok (.aload_n 0, 1) := by decide +kernel
theorem d_Mo_header_25 : decode b_Mo_header 25 = .ok (.getfield 206, 3) := by decide +kernel
theorem d_Mo_header_28 : decode b_Mo_header 28 = .ok (.bipush 6, 2) := by decide +kernel
theorem d_Mo_header_30 : decode b_Mo_header 30 = .ok (.if_icmp .ne 7, 3) := by decide +kernel
theorem d_Mo_header_33 : decode b_Mo_header 33 = .ok (.iconst 2, 1) := by decide +kernel
theorem d_Mo_header_34 : decode b_Mo_header 34 = .ok (.goto 4, 3) := by decide +kernel
theorem d_Mo_header_37 : decode b_Mo_header 37 = .ok (.iconst 0, 1) := by decide +kernel
theorem d_Mo_header_38 : decode b_Mo_header 38 = .ok (.putfield 85, 3) := by decide +kernel
theorem d_Mo_header_41 : decode b_Mo_header 41 = .ok (.aload_n 0, 1) := by decide +kernel
theorem d_Mo_header_42 : decode b_Mo_header 42 = .ok (.getfield 85, 3) := by decide +kernel
theorem d_Mo_header_45 : decode b_Mo_header 45 = .ok (.ifCond .eq 5, 3) := by decide +kernel
theorem d_Mo_header_48 : decode b_Mo_header 48 = .ok (.iconst 0, 1) := by decide +kernel
theorem d_Mo_header_49 : decode b_Mo_header 49 = .ok (.ireturn, 1) := by decide +kernel
theorem d_Mo_header_50 : decode b_Mo_header 50 = .ok (.aload_n 0, 1) := by decide +kernel
theorem d_Mo_header_51 : decode b_Mo_header 51 = .ok (.getfield 72, 3) := by decide +kernel
theorem d_Mo_header_54 : decode b_Mo_header 54 = .ok (.aload_n 0, 1) := by decide +kernel
theorem d_Mo_header_55 : decode b_Mo_header 55 = .ok (.getfield 206, 3) := by decide +kernel
theorem d_Mo_header_58 : decode b_Mo_header 58 = .ok (.iload_n 1, 1) := by decide +kernel
theorem d_Mo_header_59 : decode b_Mo_header 59 = .ok (.iastore, 1) := by decide +kernel
theorem d_Mo_header_60 : decode b_Mo_header 60 = .ok (.aload_n 0, 1) := by decide +kernel
theorem d_Mo_header_61 : decode b_Mo_header 61 = .ok (.getfield 75, 3) := by decide +kernel
theorem d_Mo_header_64 : decode b_Mo_header 64 = .ok (.aload_n 0, 1) := by decide +kernel
theorem d_Mo_header_65 : decode b_Mo_header 65 = .ok (.getfield 206, 3) := by decide +kernel
theorem d_Mo_header_68 : decode b_Mo_header 68 = .ok (.iload_n 2, 1) := by decide +kernel
theorem d_Mo_header_69 : decode b_Mo_header 69 = .ok (.iastore, 1) := by decide +kernel
theorem d_Mo_header_70 : decode b_Mo_header 70 = .ok (.aload_n 0, 1) := by decide +kernel
theorem d_Mo_header_71 : decode b_Mo_header 71 = .ok (.dup, 1) := by decide +kernel
theorem d_Mo_header_72 : decode b_Mo_header 72 = .ok (.getfield 206, 3) := by decide +kernel
theorem d_Mo_header_75 : decode b_Mo_header 75 = .ok (.iconst 1, 1) := by decide +kernel
theorem d_Mo_header_76 : decode b_Mo_header 76 = .ok (.iadd, 1) := by decide +kernel
theorem d_Mo_header_77 : decode b_Mo_header 77 = .ok (.putfield 206, 3) := by decide +kernel
theorem d_Mo_header_80 : decode b_Mo_header 80 = .ok (.aload_n 0, 1) := by decide +kernel
theorem d_Mo_header_81 : decode b_Mo_header 81 = .ok (.getfield 206, 3) := by decide +kernel
theorem d_Mo_header_84 : decode b_Mo_header 84 = .ok (.ireturn, 1) := by decide +kernel
theorem d_Mo_come_0 : decode b_Mo_come 0 = .ok (.iload_n 2, 1) := by decide +kernel
theorem d_Mo_come_1 : decode b_Mo_come 1 = .ok (.ldc 103, 2) := by decide +kernel
theorem d_Mo_come_3 : decode b_Mo_come 3 = .ok (.if_icmp .ne 7, 3) := by decide +kernel
theorem d_Mo_come_6 : decode b_Mo_come 6 = .ok (.iconst 1, 1) := by decide +kernel
theorem d_Mo_come_7 : decode b_Mo_come 7 = .ok (.goto 4, 3) := by decide +kernel
theorem d_Mo_come_10 : decode b_Mo_come 10 = .ok (.iconst 0, 1) := by decide +kernel
theorem d_Mo_come_11 : decode b_Mo_come 11 = .ok (.istore_n 3, 1) := by decide +kernel
theorem d_Mo_come_12 : decode b_Mo_come 12 = .ok (.aload_n 0, 1) := by decide +kernel
theorem d_Mo_come_13 : decode b_Mo_come 13 = .ok (.iload_n 1, 1) := by decide +kernel
theorem d_Mo_come_14 : decode b_Mo_come 14 = .ok (.ifCond .eq 11, 3) := by decide +kernel
theorem d_Mo_come_17 : decode b_Mo_come 17 = .ok (.aload_n 0, 1) := by decide +kernel
theorem d_Mo_come_18 : decode b_Mo_come 18 = .ok (.iload_n 1, 1) := by decide +kernel
theorem d_Mo_come_19 : decode b_Mo_come 19 = .ok (.invokevirtual 186, 3) := by decide +kernel
theorem d_Mo_come_22 : decode b_Mo_come 22 = .ok (.ifCond .eq 15, 3) := by decide +kernel
theorem d_Mo_come_25 : decode b_Mo_come 25 = .ok (.iload_n 3, 1) := by decide +kernel
theorem d_Mo_come_26 : decode b_Mo_come 26 = .ok (.ifCond .ne 15, 3) := by decide +kernel
theorem d_Mo_come_29 : decode b_Mo_come 29 = .ok (.aload_n 0, 1) := by decide +kernel
theorem d_Mo_come_30 : decode b_Mo_come 30 = .ok (.iload_n 2, 1) := by decide +kernel
theorem d_Mo_come_31 : decode b_Mo_come 31 = .ok (.invokevirtual 186, 3) := by decide +kernel
theorem d_Mo_come_34 : decode b_Mo_come 34 = .ok (.ifCond .ne 7, 3) := by decide +kernel
theorem d_Mo_come_37 : decode b_Mo_come 37 = .ok (.iconst 1, 1) := by decide +kernel
theorem d_Mo_come_38 : decode b_Mo_come 38 = .ok (.goto 15, 3) := by decide +kernel
theorem d_Mo_come_41 : decode b_Mo_come 41 = .ok (.aload_n 0, 1) := by decide +kernel
theorem d_Mo_come_42 : decode b_Mo_come 42 = .ok (.getfield 107, 3) := by decide +kernel
theorem d_Mo_come_45 : decode b_Mo_come 45 = .ok (.ifCond .eq 7, 3) := by decide +kernel
theorem d_Mo_come_48 : decode b_Mo_come 48 = .ok (.iconst 2, 1) := by decide +kernel
theorem d_Mo_come_49 : decode b_Mo_come 49 = .ok (.goto 4, 3) := by decide +kernel
theorem d_Mo_come_52 : decode b_Mo_come 52 = .ok (.iconst 0, 1) := by decide +kernel
theorem d_Mo_come_53 : decode b_Mo_come 53 = .ok (.putfield 85, 3) := by decide +kernel
theorem d_Mo_come_56 : decode b_Mo_come 56 = .ok (.aload_n 0, 1) := by decide +kernel
theorem d_Mo_come_57 : decode b_Mo_come 57 = .ok (.getfield 85, 3) := by decide +kernel
theorem d_Mo_come_60 : decode b_Mo_come 60 = .ok (.ifCond .eq 5, 3) := by decide +kernel
theorem d_Mo_come_63 : decode b_Mo_come 63 = .ok (.iconst 0, 1) := by decide +kernel
theorem d_Mo_come_64 : decode b_Mo_come 64 = .ok (.ireturn, 1) := by decide +kernel
theorem d_Mo_come_65 : decode b_Mo_come 65 = .ok (.aload_n 0, 1) := by decide +kernel
theorem d_Mo_come_66 : decode b_Mo_come 66 = .ok (.getfield 206, 3) := by decide +kernel
theorem d_Mo_come_69 : decode b_Mo_come 69 = .ok (.istore 4, 2) := by decide +kernel
theorem d_Mo_come_71 : decode b_Mo_come 71 = .ok (.aload_n 0, 1) := by decide +kernel
theorem d_Mo_come_72 : decode b_Mo_come 72 = .ok (.iconst 0, 1) := by decide +kernel
theorem d_Mo_come_73 : decode b_Mo_come 73 = .ok (.putfield 206, 3) := by decide +kernel
theorem d_Mo_come_76 : decode b_Mo_come 76 = .ok (.iload_n 3, 1) := by decide +kernel
theorem d_Mo_come_77 : decode b_Mo_come 77 = .ok (.ifCond .ne 17, 3) := by decide +kernel
theorem d_Mo_come_80 : decode b_Mo_come 80 = .ok (.aload_n 0, 1) := by decide +kernel
theorem d_Mo_come_81 : decode b_Mo_come 81 = .ok (.aload_n 0, 1) := by decide +kernel
theorem d_Mo_come_82 : decode b_Mo_come 82 = .ok (.iload_n 2, 1) := by decide +kernel
theorem d_Mo_come_83 : decode b_Mo_come 83 = .ok (.invokevirtual 180, 3) := by decide +kernel
theorem d_Mo_come_86 : decode b_Mo_come 86 = .ok (.invokevirtual 192, 3) := by decide +kernel
theorem d_Mo_come_89 : decode b_Mo_come 89 = .ok (.ifCond .ne 5, 3) := by decide +kernel
theorem d_Mo_come_92 : decode b_Mo_come 92 = .ok (.iconst 0, 1) := by decide +kernel
theorem d_Mo_come_93 : decode b_Mo_come 93 = .ok (.ireturn, 1) := by decide +kernel
theorem d_Mo_come_94 : decode b_Mo_come 94 = .ok (.iconst 0, 1) := by decide +kernel
theorem d_Mo_come_95 : decode b_Mo_come 95 = .ok (.istore 5, 2) := by decide +kernel
theorem d_Mo_come_97 : decode b_Mo_come 97 = .ok (.iconst 0, 1) := by decide +kernel
theorem d_Mo_come_98 : decode b_Mo_come 98 = .ok (.istore 6, 2) := by decide +kernel
theorem d_Mo_come_100 : decode b_Mo_come 100 = .ok (.iload 5, 2) := by decide +kernel
theorem d_Mo_come_102 : decode b_Mo_come 102 = .ok (.iload 4, 2) := by decide +kernel
theorem d_Mo_come_104 : decode b_Mo_come 104 = .ok (.if_icmp .ge 95, 3) := by decide +kernel
theorem d_Mo_come_107 : decode b_Mo_come 107 = .ok (.iload 6, 2) := by decide +kernel
theorem d_Mo_come_109 : decode b_Mo_come 109 = .ok (.ifCond .ne 90, 3) := by decide +kernel
theorem d_Mo_come_112 : decode b_Mo_come 112 = .ok (.aload_n 0, 1) := by decide +kernel
theorem d_Mo_come_113 : decode b_Mo_come 113 = .ok (.iload 5, 2) := by decide +kernel
theorem d_Mo_come_115 : decode b_Mo_come 115 = .ok (.iload_n 3, 1) := by decide +kernel
theorem d_Mo_come_116 : decode b_Mo_come 116 = .ok (.invokevirtual 209, 3) := by decide +kernel
theorem d_Mo_come_119 : decode b_Mo_come 119 = .ok (.istore 6, 2) := by decide +kernel
theorem d_Mo_come_121 : decode b_Mo_come 121 = .ok (.iload 6, 2) := by decide +kernel
theorem d_Mo_come_123 : decode b_Mo_come 123 = .ok (.iconst 1, 1) := by decide +kernel
theorem d_Mo_come_124 : decode b_Mo_come 124 = .ok (.if_icmp .le 15, 3) := by decide +kernel
theorem d_Mo_come_127 : decode b_Mo_come 127 = .ok (.aload_n 0, 1) := by decide +kernel
theorem d_Mo_come_128 : decode b_Mo_come 128 = .ok (.iload_n 1, 1) := by decide +kernel
theorem d_Mo_come_129 : decode b_Mo_come 129 = .ok (.iload 5, 2) := by decide +kernel
theorem d_Mo_come_131 : decode b_Mo_come 131 = .ok (.iload 6, 2) := by decide +kernel
theorem d_Mo_come_133 : decode b_Mo_come 133 = .ok (.iconst 2, 1) := by decide +kernel
theorem d_Mo_come_134 : decode b_Mo_come 134 = .ok (.isub, 1) := by decide +kernel
theorem d_Mo_come_135 : decode b_Mo_come 135 = .ok (.iload_n 3, 1) := by decide +kernel
theorem d_Mo_come_136 : decode b_Mo_come 136 = .ok (.invokevirtual 213, 3) := by decide +kernel
theorem d_Mo_come_139 : decode b_Mo_come 139 = .ok (.aload_n 0, 1) := by decide +kernel
theorem d_Mo_come_140 : decode b_Mo_come 140 = .ok (.getfield 72, 3) := by decide +kernel
theorem d_Mo_come_143 : decode b_Mo_come 143 = .ok (.iload 5, 2) := by decide +kernel
theorem d_Mo_come_145 : decode b_Mo_come 145 = .ok (.iaload, 1) := by decide +kernel
theorem d_Mo_come_146 : decode b_Mo_come 146 = .ok (.iconst 5, 1) := by decide +kernel
theorem d_Mo_come_147 : decode b_Mo_come 147 = .ok (.if_icmp .ne 20, 3) := by decide +kernel
theorem d_Mo_come_150 : decode b_Mo_come 150 = .ok (.iload_n 1, 1) := by decide +kernel
theorem d_Mo_come_151 : decode b_Mo_come 151 = .ok (.ifCond .eq 16, 3) := by decide +kernel
theorem d_Mo_come_154 : decode b_Mo_come 154 = .ok (.aload_n 0, 1) := by decide +kernel
theorem d_Mo_come_155 : decode b_Mo_come 155 = .ok (.iconst 5, 1) := by decide +kernel
theorem d_Mo_come_156 : decode b_Mo_come 156 = .ok (.iload_n 1, 1) := by decide +kernel
theorem d_Mo_come_157 : decode b_Mo_come 157 = .ok (.aload_n 0, 1) := by decide +kernel
theorem d_Mo_come_158 : decode b_Mo_come 158 = .ok (.getfield 75, 3) := by decide +kernel
theorem d_Mo_come_161 : decode b_Mo_come 161 = .ok (.iload 5, 2) := by decide +kernel
theorem d_Mo_come_163 : decode b_Mo_come 163 = .ok (.iaload, 1) := by decide +kernel
theorem d_Mo_come_164 : decode b_Mo_come 164 = .ok (.invokevirtual 104, 3) := by decide +kernel
theorem d_Mo_come_167 : decode b_Mo_come 167 = .ok (.aload_n 0, 1) := by decide +kernel
theorem d_Mo_come_168 : decode b_Mo_come 168 = .ok (.dup, 1) := by decide +kernel
theorem d_Mo_come_169 : decode b_Mo_come 169 = .ok (.getfield 217, 3) := by decide +kernel
theorem d_Mo_come_172 : decode b_Mo_come 172 = .ok (.aload_n 0, 1) := by decide +kernel
theorem d_Mo_come_173 : decode b_Mo_come 173 = .ok (.getfield 72, 3) := by decide +kernel
theorem d_Mo_come_176 : decode b_Mo_come 176 = .ok (.iload 5, 2) := by decide +kernel
theorem d_Mo_come_178 : decode b_Mo_come 178 = .ok (.iaload, 1) := by decide +kernel
theorem d_Mo_come_179 : decode b_Mo_come 179 = .ok (.bipush 6, 2) := by decide +kernel
theorem d_Mo_come_181 : decode b_Mo_come 181 = .ok (.if_icmp .ne 7, 3) := by decide +kernel
theorem d_Mo_come_184 : decode b_Mo_come 184 = .ok (.iconst 1, 1) := by decide +kernel
theorem d_Mo_come_185 : decode b_Mo_come 185 = .ok (.goto 4, 3) := by decide +kernel
theorem d_Mo_come_188 : decode b_Mo_come 188 = .ok (.iconst 0, 1) := by decide +kernel
theorem d_Mo_come_189 : decode b_Mo_come 189 = .ok (.iadd, 1) := by decide +kernel
theorem d_Mo_come_190 : decode b_Mo_come 190 = .ok (.putfield 217, 3) := by decide +kernel
theorem d_Mo_come_193 : decode b_Mo_come 193 = .ok (.iinc 5 1, 3) := by decide +kernel
theorem d_Mo_come_196 : decode b_Mo_come 196 = .ok (.goto (-96), 3) := by decide +kernel
theorem d_Mo_come_199 : decode b_Mo_come 199 = .ok (.iload 5, 2) := by decide +kernel
theorem d_Mo_come_201 : decode b_Mo_come 201 = .ok (.ireturn, 1) := by decide +kernel
theorem d_Mo_look_0 : decode b_Mo_look 0 = .ok (.aload_n 0, 1) := by decide +kernel
theorem d_Mo_look_1 : decode b_Mo_look 1 = .ok (.getfield 75, 3) := by decide +kernel
theorem d_Mo_look_4 : decode b_Mo_look 4 = .ok (.iload_n 1, 1) := by decide +kernel
theorem d_Mo_look_5 : decode b_Mo_look 5 = .ok (.iaload, 1) := by decide +kernel
theorem d_Mo_look_6 : decode b_Mo_look 6 = .ok (.istore_n 3, 1) := by decide +kernel
theorem d_Mo_look_7 : decode b_Mo_look 7 = .ok (.aload_n 0, 1) := by decide +kernel
theorem d_Mo_look_8 : decode b_Mo_look 8 = .ok (.getfield 72, 3) := by decide +kernel
theorem d_Mo_look_11 : decode b_Mo_look 11 = .ok (.iload_n 1, 1) := by decide +kernel
theorem d_Mo_look_12 : decode b_Mo_look 12 = .ok (.iaload, 1) := by decide +kernel
theorem d_Mo_look_13 : decode b_Mo_look 13 = .ok (.tableswitch 121 0 6 #[43, 75, 99, 109, 119, 119, 119], 43) := by decide +kernel
theorem d_Mo_look_56 : decode b_Mo_look 56 = .ok (.iload_n 1, 1) := by decide +kernel
theorem d_Mo_look_57 : decode b_Mo_look 57 = .ok (.ifCond .le 7, 3) := by decide +kernel
theorem d_Mo_look_60 : decode b_Mo_look 60 = .ok (.iconst 3, 1) := by decide +kernel
theorem d_Mo_look_61 : decode b_Mo_look 61 = .ok (.goto 26, 3) := by decide +kernel
theorem d_Mo_look_64 : decode b_Mo_look 64 = .ok (.iload_n 3, 1) := by decide +kernel
theorem d_Mo_look_65 : decode b_Mo_look 65 = .ok (.iconst 2, 1) := by decide +kernel
theorem d_Mo_look_66 : decode b_Mo_look 66 = .ok (.if_icmp .ge 7, 3) := by decide +kernel
theorem d_Mo_look_69 : decode b_Mo_look 69 = .ok (.iload_n 3, 1) := by decide +kernel
theorem d_Mo_look_70 : decode b_Mo_look 70 = .ok (.goto 17, 3) := by decide +kernel
theorem d_Mo_look_73 : decode b_Mo_look 73 = .ok (.iload_n 3, 1) := by decide +kernel
theorem d_Mo_look_74 : decode b_Mo_look 74 = .ok (.iconst 2, 1) := by decide +kernel
theorem d_Mo_look_75 : decode b_Mo_look 75 = .ok (.if_icmp .eq 7, 3) := by decide +kernel
theorem d_Mo_look_78 : decode b_Mo_look 78 = .ok (.iload_n 2, 1) := by decide +kernel
theorem d_Mo_look_79 : decode b_Mo_look 79 = .ok (.ifCond .ne 7, 3) := by decide +kernel
theorem d_Mo_look_82 : decode b_Mo_look 82 = .ok (.iconst 4, 1) := by decide +kernel
theorem d_Mo_look_83 : decode b_Mo_look 83 = .ok (.goto 4, 3) := by decide +kernel
theorem d_Mo_look_86 : decode b_Mo_look 86 = .ok (.iconst 1, 1) := by decide +kernel
theorem d_Mo_look_87 : decode b_Mo_look 87 = .ok (.ireturn, 1) := by decide +kernel
theorem d_Mo_look_88 : decode b_Mo_look 88 = .ok (.iload_n 3, 1) := by decide +kernel
theorem d_Mo_look_89 : decode b_Mo_look 89 = .ok (.iconst 2, 1) := by decide +kernel
theorem d_Mo_look_90 : decode b_Mo_look 90 = .ok (.if_icmp .ge 7, 3) := by decide +kernel
theorem d_Mo_look_93 : decode b_Mo_look 93 = .ok (.iload_n 3, 1) := by decide +kernel
theorem d_Mo_look_94 : decode b_Mo_look 94 = .ok (.goto 17, 3) := by decide +kernel
theorem d_Mo_look_97 : decode b_Mo_look 97 = .ok (.iload_n 3, 1) := by decide +kernel
theorem d_Mo_look_98 : decode b_Mo_look 98 = .ok (.iconst 2, 1) := by decide +kernel
theorem d_Mo_look_99 : decode b_Mo_look 99 = .ok (.if_icmp .eq 7, 3) := by decide +kernel
theorem d_Mo_look_102 : decode b_Mo_look 102 = .ok (.iload_n 2, 1) := by decide +kernel
theorem d_Mo_look_103 : decode b_Mo_look 103 = .ok (.ifCond .ne 7, 3) := by decide +kernel
theorem d_Mo_look_106 : decode b_Mo_look 106 = .ok (.iconst 4, 1) := by decide +kernel
theorem d_Mo_look_107 : decode b_Mo_look 107 = .ok (.goto 4, 3) := by decide +kernel
theorem d_Mo_look_110 : decode b_Mo_look 110 = .ok (.iconst 1, 1) := by decide +kernel
theorem d_Mo_look_111 : decode b_Mo_look 111 = .ok (.ireturn, 1) := by decide +kernel
theorem d_Mo_look_112 : decode b_Mo_look 112 = .ok (.iload_n 3, 1) := by decide +kernel
theorem d_Mo_look_113 : decode b_Mo_look 113 = .ok (.ifCond .ne 7, 3) := by decide +kernel
theorem d_Mo_look_116 : decode b_Mo_look 116 = .ok (.iconst 0, 1) := by decide +kernel
theorem d_Mo_look_117 : decode b_Mo_look 117 = .ok (.goto 4, 3) := by decide +kernel
theorem d_Mo_look_120 : decode b_Mo_look 120 = .ok (.iconst 2, 1) := by decide +kernel
theorem d_Mo_look_121 : decode b_Mo_look 121 = .ok (.ireturn, 1) := by decide +kernel
theorem d_Mo_look_122 : decode b_Mo_look 122 = .ok (.iload_n 3, 1) := by decide +kernel
theorem d_Mo_look_123 : decode b_Mo_look 123 = .ok (.ifCond .ne 7, 3) := by decide +kernel
theorem d_Mo_look_126 : decode b_Mo_look 126 = .ok (.iconst 0, 1) := by decide +kernel
theorem d_Mo_look_127 : decode b_Mo_look 127 = .ok (.goto 4, 3) := by decide +kernel
theorem d_Mo_look_130 : decode b_Mo_look 130 = .ok (.iconst 1, 1) := by decide +kernel
theorem d_Mo_look_131 : decode b_Mo_look 131 = .ok (.ireturn, 1) := by decide +kernel
theorem d_Mo_look_132 : decode b_Mo_look 132 = .ok (.iconst 1, 1) := by decide +kernel
theorem d_Mo_look_133 : decode b_Mo_look 133 = .ok (.ireturn, 1) := by decide +kernel
theorem d_Mo_look_134 : decode b_Mo_look 134 = .ok (.iconst 3, 1) := by decide +kernel
theorem d_Mo_look_135 : decode b_Mo_look 135 = .ok (.ireturn, 1) := by decide +kernel
theorem d_Mo_fault_0 : decode b_Mo_fault 0 = .ok (.iload_n 1, 1) := by decide +kernel
theorem d_Mo_fault_1 : decode b_Mo_fault 1 = .ok (.ifCond .eq 43, 3) := by decide +kernel
theorem d_Mo_fault_4 : decode b_Mo_fault 4 = .ok (.iload 4, 2) := by decide +kernel
theorem d_Mo_fault_6 : decode b_Mo_fault 6 = .ok (.ifCond .eq 8, 3) := by decide +kernel
theorem d_Mo_fault_9 : decode b_Mo_fault 9 = .ok (.iload_n 3, 1) := by decide +kernel
theorem d_Mo_fault_10 : decode b_Mo_fault 10 = .ok (.iconst 2, 1) := by decide +kernel
theorem d_Mo_fault_11 : decode b_Mo_fault 11 = .ok (.if_icmp .ne 33, 3) := by decide +kernel
theorem d_Mo_fault_14 : decode b_Mo_fault 14 = .ok (.aload_n 0, 1) := by decide +kernel
theorem d_Mo_fault_15 : decode b_Mo_fault 15 = .ok (.getfield 13, 3) := by decide +kernel
theorem d_Mo_fault_18 : decode b_Mo_fault 18 = .ok (.ifCond .le 26, 3) := by decide +kernel
theorem d_Mo_fault_21 : decode b_Mo_fault 21 = .ok (.aload_n 0, 1) := by decide +kernel
theorem d_Mo_fault_22 : decode b_Mo_fault 22 = .ok (.dup, 1) := by decide +kernel
theorem d_Mo_fault_23 : decode b_Mo_fault 23 = .ok (.getfield 13, 3) := by decide +kernel
theorem d_Mo_fault_26 : decode b_Mo_fault 26 = .ok (.iconst 1, 1) := by decide +kernel
theorem d_Mo_fault_27 : decode b_Mo_fault 27 = .ok (.isub, 1) := by decide +kernel
theorem d_Mo_fault_28 : decode b_Mo_fault 28 = .ok (.putfield 13, 3) := by decide +kernel
theorem d_Mo_fault_31 : decode b_Mo_fault 31 = .ok (.aload_n 0, 1) := by decide +kernel
theorem d_Mo_fault_32 : decode b_Mo_fault 32 = .ok (.bipush 6, 2) := by decide +kernel
theorem d_Mo_fault_34 : decode b_Mo_fault 34 = .ok (.iload_n 1, 1) := by decide +kernel
theorem d_Mo_fault_35 : decode b_Mo_fault 35 = .ok (.bipush 16, 2) := by decide +kernel
theorem d_Mo_fault_37 : decode b_Mo_fault 37 = .ok (.iload_n 2, 1) := by decide +kernel
theorem d_Mo_fault_38 : decode b_Mo_fault 38 = .ok (.imul, 1) := by decide +kernel
theorem d_Mo_fault_39 : decode b_Mo_fault 39 = .ok (.iload_n 3, 1) := by decide +kernel
theorem d_Mo_fault_40 : decode b_Mo_fault 40 = .ok (.iadd, 1) := by decide +kernel
theorem d_Mo_fault_41 : decode b_Mo_fault 41 = .ok (.invokevirtual 104, 3) := by decide +kernel
theorem d_Mo_fault_44 : decode b_Mo_fault 44 = .ok (.return_, 1) := by decide +kernel
theorem d_Mo_count_0 : decode b_Mo_count 0 = .ok (.aload_n 0, 1) := by decide +kernel
theorem d_Mo_count_1 : decode b_Mo_count 1 = .ok (.iload_n 1, 1) := by decide +kernel
theorem d_Mo_count_2 : decode b_Mo_count 2 = .ok (.ifCond .lt 9, 3) := by decide +kernel
theorem d_Mo_count_5 : decode b_Mo_count 5 = .ok (.iload_n 1, 1) := by decide +kernel
theorem d_Mo_count_6 : decode b_Mo_count 6 = .ok (.bipush 11, 2) := by decide +kernel
theorem d_Mo_count_8 : decode b_Mo_count 8 = .ok (.if_icmp .le 7, 3) := by decide +kernel
theorem d_Mo_count_11 : decode b_Mo_count 11 = .ok (.iconst 1, 1) := by decide +kernel
theorem d_Mo_count_12 : decode b_Mo_count 12 = .ok (.goto 4, 3) := by decide +kernel
theorem d_Mo_count_15 : decode b_Mo_count 15 = .ok (.iconst 0, 1) := by decide +kernel
theorem d_Mo_count_16 : decode b_Mo_count 16 = .ok (.putfield 85, 3) := by decide +kernel
theorem d_Mo_count_19 : decode b_Mo_count 19 = .ok (.iload_n 1, 1) := by decide +kernel
theorem d_Mo_count_20 : decode b_Mo_count 20 = .ok (.tableswitch 133 0 11 #[64, 69, 74, 74, 83, 88, 95, 100, 105, 110, 115, 120], 64) := by decide +kernel
theorem d_Mo_count_84 : decode b_Mo_count 84 = .ok (.aload_n 0, 1) := by decide +kernel
theorem d_Mo_count_85 : decode b_Mo_count 85 = .ok (.getfield 89, 3) := by decide +kernel
theorem d_Mo_count_88 : decode b_Mo_count 88 = .ok (.ireturn, 1) := by decide +kernel
theorem d_Mo_count_89 : decode b_Mo_count 89 = .ok (.aload_n 0, 1) := by decide +kernel
theorem d_Mo_count_90 : decode b_Mo_count 90 = .ok (.getfield 96, 3) := by decide +kernel
theorem d_Mo_count_93 : decode b_Mo_count 93 = .ok (.ireturn, 1) := by decide +kernel
theorem d_Mo_count_94 : decode b_Mo_count 94 = .ok (.aload_n 0, 1) := by decide +kernel
theorem d_Mo_count_95 : decode b_Mo_count 95 = .ok (.getfield 60, 3) := by decide +kernel
theorem d_Mo_count_98 : decode b_Mo_count 98 = .ok (.iload_n 1, 1) := by decide +kernel
theorem d_Mo_count_99 : decode b_Mo_count 99 = .ok (.iconst 2, 1) := by decide +kernel
theorem d_Mo_count_100 : decode b_Mo_count 100 = .ok (.isub, 1) := by decide +kernel
theorem d_Mo_count_101 : decode b_Mo_count 101 = .ok (.iaload, 1) := by decide +kernel
theorem d_Mo_count_102 : decode b_Mo_count 102 = .ok (.ireturn, 1) := by decide +kernel
theorem d_Mo_count_103 : decode b_Mo_count 103 = .ok (.aload_n 0, 1) := by decide +kernel
theorem d_Mo_count_104 : decode b_Mo_count 104 = .ok (.getfield 119, 3) := by decide +kernel
theorem d_Mo_count_107 : decode b_Mo_count 107 = .ok (.ireturn, 1) := by decide +kernel
theorem d_Mo_count_108 : decode b_Mo_count 108 = .ok (.aload_n 0, 1) := by decide +kernel
theorem d_Mo_count_109 : decode b_Mo_count 109 = .ok (.getfield 60, 3) := by decide +kernel
theorem d_Mo_count_112 : decode b_Mo_count 112 = .ok (.iconst 2, 1) := by decide +kernel
theorem d_Mo_count_113 : decode b_Mo_count 113 = .ok (.iaload, 1) := by decide +kernel
theorem d_Mo_count_114 : decode b_Mo_count 114 = .ok (.ireturn, 1) := by decide +kernel
theorem d_Mo_count_115 : decode b_Mo_count 115 = .ok (.aload_n 0, 1) := by decide +kernel
theorem d_Mo_count_116 : decode b_Mo_count 116 = .ok (.getfield 92, 3) := by decide +kernel
theorem d_Mo_count_119 : decode b_Mo_count 119 = .ok (.ireturn, 1) := by decide +kernel
theorem d_Mo_count_120 : decode b_Mo_count 120 = .ok (.aload_n 0, 1) := by decide +kernel
theorem d_Mo_count_121 : decode b_Mo_count 121 = .ok (.getfield 142, 3) := by decide +kernel
theorem d_Mo_count_124 : decode b_Mo_count 124 = .ok (.ireturn, 1) := by decide +kernel
theorem d_Mo_count_125 : decode b_Mo_count 125 = .ok (.aload_n 0, 1) := by decide +kernel
theorem d_Mo_count_126 : decode b_Mo_count 126 = .ok (.getfield 217, 3) := by decide +kernel
theorem d_Mo_count_129 : decode b_Mo_count 129 = .ok (.ireturn, 1) := by decide +kernel
theorem d_Mo_count_130 : decode b_Mo_count 130 = .ok (.aload_n 0, 1) := by decide +kernel
theorem d_Mo_count_131 : decode b_Mo_count 131 = .ok (.getfield 13, 3) := by decide +kernel
theorem d_Mo_count_134 : decode b_Mo_count 134 = .ok (.ireturn, 1) := by decide +kernel
theorem d_Mo_count_135 : decode b_Mo_count 135 = .ok (.aload_n 0, 1) := by decide +kernel
theorem d_Mo_count_136 : decode b_Mo_count 136 = .ok (.getfield 7, 3) := by decide +kernel
theorem d_Mo_count_139 : decode b_Mo_count 139 = .ok (.ireturn, 1) := by decide +kernel
theorem d_Mo_count_140 : decode b_Mo_count 140 = .ok (.aload_n 0, 1) := by decide +kernel
theorem d_Mo_count_141 : decode b_Mo_count 141 = .ok (.getfield 107, 3) := by decide +kernel
theorem d_Mo_count_144 : decode b_Mo_count 144 = .ok (.ifCond .eq 7, 3) := by decide +kernel
theorem d_Mo_count_147 : decode b_Mo_count 147 = .ok (.iconst 1, 1) := by decide +kernel
theorem d_Mo_count_148 : decode b_Mo_count 148 = .ok (.goto 4, 3) := by decide +kernel
theorem d_Mo_count_151 : decode b_Mo_count 151 = .ok (.iconst 0, 1) := by decide +kernel
theorem d_Mo_count_152 : decode b_Mo_count 152 = .ok (.ireturn, 1) := by decide +kernel
theorem d_Mo_count_153 : decode b_Mo_count 153 = .ok (.iconst 0, 1) := by decide +kernel
theorem d_Mo_count_154 : decode b_Mo_count 154 = .ok (.ireturn, 1) := by decide +kernel
theorem d_Mo_own_0 : decode b_Mo_own 0 = .ok (.aload_n 0, 1) := by decide +kernel
theorem d_Mo_own_1 : decode b_Mo_own 1 = .ok (.aload_n 0, 1) := by decide +kernel
theorem d_Mo_own_2 : decode b_Mo_own 2 = .ok (.iload_n 1, 1) := by decide +kernel
theorem d_Mo_own_3 : decode b_Mo_own 3 = .ok (.invokevirtual 220, 3) := by decide +kernel
theorem d_Mo_own_6 : decode b_Mo_own 6 = .ok (.ifCond .eq 7, 3) := by decide +kernel
theorem d_Mo_own_9 : decode b_Mo_own 9 = .ok (.iconst 1, 1) := by decide +kernel
theorem d_Mo_own_10 : decode b_Mo_own 10 = .ok (.goto 4, 3) := by decide +kernel
theorem d_Mo_own_13 : decode b_Mo_own 13 = .ok (.iconst 0, 1) := by decide +kernel
theorem d_Mo_own_14 : decode b_Mo_own 14 = .ok (.putfield 85, 3) := by decide +kernel
theorem d_Mo_own_17 : decode b_Mo_own 17 = .ok (.aload_n 0, 1) := by decide +kernel
theorem d_Mo_own_18 : decode b_Mo_own 18 = .ok (.getfield 85, 3) := by decide +kernel
theorem d_Mo_own_21 : decode b_Mo_own 21 = .ok (.ifCond .eq 7, 3) := by decide +kernel
theorem d_Mo_own_24 : decode b_Mo_own 24 = .ok (.iconst 0, 1) := by decide +kernel
theorem d_Mo_own_25 : decode b_Mo_own 25 = .ok (.goto 19, 3) := by decide +kernel
theorem d_Mo_own_28 : decode b_Mo_own 28 = .ok (.aload_n 0, 1) := by decide +kernel
theorem d_Mo_own_29 : decode b_Mo_own 29 = .ok (.getfield 26, 3) := by decide +kernel
theorem d_Mo_own_32 : decode b_Mo_own 32 = .ok (.iload_n 1, 1) := by decide +kernel
theorem d_Mo_own_33 : decode b_Mo_own 33 = .ok (.iaload, 1) := by decide +kernel
theorem d_Mo_own_34 : decode b_Mo_own 34 = .ok (.ldc 95, 2) := by decide +kernel
theorem d_Mo_own_36 : decode b_Mo_own 36 = .ok (.aload_n 0, 1) := by decide +kernel
theorem d_Mo_own_37 : decode b_Mo_own 37 = .ok (.getfield 29, 3) := by decide +kernel
theorem d_Mo_own_40 : decode b_Mo_own 40 = .ok (.iload_n 1, 1) := by decide +kernel
theorem d_Mo_own_41 : decode b_Mo_own 41 = .ok (.iaload, 1) := by decide +kernel
theorem d_Mo_own_42 : decode b_Mo_own 42 = .ok (.imul, 1) := by decide +kernel
theorem d_Mo_own_43 : decode b_Mo_own 43 = .ok (.iadd, 1) := by decide +kernel
theorem d_Mo_own_44 : decode b_Mo_own 44 = .ok (.ireturn, 1) := by decide +kernel
theorem d_Mo_noOwn_0 : decode b_Mo_noOwn 0 = .ok (.iload_n 1, 1) := by decide +kernel
theorem d_Mo_noOwn_1 : decode b_Mo_noOwn 1 = .ok (.ifCond .lt 11, 3) := by decide +kernel
theorem d_Mo_noOwn_4 : decode b_Mo_noOwn 4 = .ok (.iload_n 1, 1) := by decide +kernel
theorem d_Mo_noOwn_5 : decode b_Mo_noOwn 5 = .ok (.aload_n 0, 1) := by decide +kernel
theorem d_Mo_noOwn_6 : decode b_Mo_noOwn 6 = .ok (.getfield 96, 3) := by decide +kernel
theorem d_Mo_noOwn_9 : decode b_Mo_noOwn 9 = .ok (.if_icmp .lt 7, 3) := by decide +kernel
theorem d_Mo_noOwn_12 : decode b_Mo_noOwn 12 = .ok (.iconst 1, 1) := by decide +kernel
theorem d_Mo_noOwn_13 : decode b_Mo_noOwn 13 = .ok (.goto 4, 3) := by decide +kernel
theorem d_Mo_noOwn_16 : decode b_Mo_noOwn 16 = .ok (.iconst 0, 1) := by decide +kernel
theorem d_Mo_noOwn_17 : decode b_Mo_noOwn 17 = .ok (.ireturn, 1) := by decide +kernel
theorem d_Mo_until_0 : decode b_Mo_until 0 = .ok (.aload_n 0, 1) := by decide +kernel
theorem d_Mo_until_1 : decode b_Mo_until 1 = .ok (.aload_n 0, 1) := by decide +kernel
theorem d_Mo_until_2 : decode b_Mo_until 2 = .ok (.iload_n 1, 1) := by decide +kernel
theorem d_Mo_until_3 : decode b_Mo_until 3 = .ok (.invokevirtual 220, 3) := by decide +kernel
theorem d_Mo_until_6 : decode b_Mo_until 6 = .ok (.ifCond .eq 7, 3) := by decide +kernel
theorem d_Mo_until_9 : decode b_Mo_until 9 = .ok (.iconst 1, 1) := by decide +kernel
theorem d_Mo_until_10 : decode b_Mo_until 10 = .ok (.goto 4, 3) := by decide +kernel
theorem d_Mo_until_13 : decode b_Mo_until 13 = .ok (.iconst 0, 1) := by decide +kernel
theorem d_Mo_until_14 : decode b_Mo_until 14 = .ok (.putfield 85, 3) := by decide +kernel
theorem d_Mo_until_17 : decode b_Mo_until 17 = .ok (.aload_n 0, 1) := by decide +kernel
theorem d_Mo_until_18 : decode b_Mo_until 18 = .ok (.getfield 85, 3) := by decide +kernel
theorem d_Mo_until_21 : decode b_Mo_until 21 = .ok (.ifCond .eq 7, 3) := by decide +kernel
theorem d_Mo_until_24 : decode b_Mo_until 24 = .ok (.iconst 0, 1) := by decide +kernel
theorem d_Mo_until_25 : decode b_Mo_until 25 = .ok (.goto 24, 3) := by decide +kernel
theorem d_Mo_until_28 : decode b_Mo_until 28 = .ok (.aload_n 0, 1) := by decide +kernel
theorem d_Mo_until_29 : decode b_Mo_until 29 = .ok (.getfield 38, 3) := by decide +kernel
theorem d_Mo_until_32 : decode b_Mo_until 32 = .ok (.iload_n 1, 1) := by decide +kernel
theorem d_Mo_until_33 : decode b_Mo_until 33 = .ok (.iaload, 1) := by decide +kernel
theorem d_Mo_until_34 : decode b_Mo_until 34 = .ok (.ldc 88, 2) := by decide +kernel
theorem d_Mo_until_36 : decode b_Mo_until 36 = .ok (.if_icmp .ne 7, 3) := by decide +kernel
theorem d_Mo_until_39 : decode b_Mo_until 39 = .ok (.iconst (-1), 1) := by decide +kernel
theorem d_Mo_until_40 : decode b_Mo_until 40 = .ok (.goto 9, 3) := by decide +kernel
theorem d_Mo_until_43 : decode b_Mo_until 43 = .ok (.aload_n 0, 1) := by decide +kernel
theorem d_Mo_until_44 : decode b_Mo_until 44 = .ok (.getfield 38, 3) := by decide +kernel
theorem d_Mo_until_47 : decode b_Mo_until 47 = .ok (.iload_n 1, 1) := by decide +kernel
theorem d_Mo_until_48 : decode b_Mo_until 48 = .ok (.iaload, 1) := by decide +kernel
theorem d_Mo_until_49 : decode b_Mo_until 49 = .ok (.ireturn, 1) := by decide +kernel
theorem d_Mo_neighbour_0 : decode b_Mo_neighbour 0 = .ok (.aload_n 0, 1) := by decide +kernel
theorem d_Mo_neighbour_1 : decode b_Mo_neighbour 1 = .ok (.iconst 0, 1) := by decide +kernel
theorem d_Mo_neighbour_2 : decode b_Mo_neighbour 2 = .ok (.putfield 85, 3) := by decide +kernel
theorem d_Mo_neighbour_5 : decode b_Mo_neighbour 5 = .ok (.aload_n 0, 1) := by decide +kernel
theorem d_Mo_neighbour_6 : decode b_Mo_neighbour 6 = .ok (.iload_n 1, 1) := by decide +kernel
theorem d_Mo_neighbour_7 : decode b_Mo_neighbour 7 = .ok (.invokevirtual 132, 3) := by decide +kernel
theorem d_Mo_neighbour_10 : decode b_Mo_neighbour 10 = .ok (.istore_n 2, 1) := by decide +kernel
theorem d_Mo_neighbour_11 : decode b_Mo_neighbour 11 = .ok (.iload_n 2, 1) := by decide +kernel
theorem d_Mo_neighbour_12 : decode b_Mo_neighbour 12 = .ok (.ifCond .ge 7, 3) := by decide +kernel
theorem d_Mo_neighbour_15 : decode b_Mo_neighbour 15 = .ok (.iconst 0, 1) := by decide +kernel
theorem d_Mo_neighbour_16 : decode b_Mo_neighbour 16 = .ok (.goto 53, 3) := by decide +kernel
theorem d_Mo_neighbour_19 : decode b_Mo_neighbour 19 = .ok (.aload_n 0, 1) := by decide +kernel
theorem d_Mo_neighbour_20 : decode b_Mo_neighbour 20 = .ok (.getfield 51, 3) := by decide +kernel
theorem d_Mo_neighbour_23 : decode b_Mo_neighbour 23 = .ok (.iload_n 2, 1) := by decide +kernel
theorem d_Mo_neighbour_24 : decode b_Mo_neighbour 24 = .ok (.iaload, 1) := by decide +kernel
theorem d_Mo_neighbour_25 : decode b_Mo_neighbour 25 = .ok (.bipush 8, 2) := by decide +kernel
theorem d_Mo_neighbour_27 : decode b_Mo_neighbour 27 = .ok (.aload_n 0, 1) := by decide +kernel
theorem d_Mo_neighbour_28 : decode b_Mo_neighbour 28 = .ok (.getfield 44, 3) := by decide +kernel
theorem d_Mo_neighbour_31 : decode b_Mo_neighbour 31 = .ok (.iload_n 2, 1) := by decide +kernel
theorem d_Mo_neighbour_32 : decode b_Mo_neighbour 32 = .ok (.iaload, 1) := by decide +kernel
theorem d_Mo_neighbour_33 : decode b_Mo_neighbour 33 = .ok (.imul, 1) := by decide +kernel
theorem d_Mo_neighbour_34 : decode b_Mo_neighbour 34 = .ok (.iadd, 1) := by decide +kernel
theorem d_Mo_neighbour_35 : decode b_Mo_neighbour 35 = .ok (.aload_n 0, 1) := by decide +kernel
theorem d_Mo_neighbour_36 : decode b_Mo_neighbour 36 = .ok (.getfield 47, 3) := by decide +kernel
theorem d_Mo_neighbour_39 : decode b_Mo_neighbour 39 = .ok (.iload_n 2, 1) := by decide +kernel
theorem d_Mo_neighbour_40 : decode b_Mo_neighbour 40 = .ok (.baload, 1) := by decide +kernel
theorem d_Mo_neighbour_41 : decode b_Mo_neighbour 41 = .ok (.ifCond .eq 9, 3) := by decide +kernel
theorem d_Mo_neighbour_44 : decode b_Mo_neighbour 44 = .ok (.sipush 1024, 3) := by decide +kernel
theorem d_Mo_neighbour_47 : decode b_Mo_neighbour 47 = .ok (.goto 4, 3) := by decide +kernel
theorem d_Mo_neighbour_50 : decode b_Mo_neighbour 50 = .ok (.iconst 0, 1) := by decide +kernel
theorem d_Mo_neighbour_51 : decode b_Mo_neighbour 51 = .ok (.iadd, 1) := by decide +kernel
theorem d_Mo_neighbour_52 : decode b_Mo_neighbour 52 = .ok (.aload_n 0, 1) := by decide +kernel
theorem d_Mo_neighbour_53 : decode b_Mo_neighbour 53 = .ok (.getfield 57, 3) := by decide +kernel
theorem d_Mo_neighbour_56 : decode b_Mo_neighbour 56 = .ok (.iload_n 2, 1) := by decide +kernel
theorem d_Mo_neighbour_57 : decode b_Mo_neighbour 57 = .ok (.iaload, 1) := by decide +kernel
theorem d_Mo_neighbour_58 : decode b_Mo_neighbour 58 = .ok (.ifCond .le 9, 3) := by decide +kernel
theorem d_Mo_neighbour_61 : decode b_Mo_neighbour 61 = .ok (.sipush 2048, 3) := by decide +kernel
theorem d_Mo_neighbour_64 : decode b_Mo_neighbour 64 = .ok (.goto 4, 3) := by decide +kernel
theorem d_Mo_neighbour_67 : decode b_Mo_neighbour 67 = .ok (.iconst 0, 1) := by decide +kernel
theorem d_Mo_neighbour_68 : decode b_Mo_neighbour 68 = .ok (.iadd, 1) := by decide +kernel
theorem d_Mo_neighbour_69 : decode b_Mo_neighbour 69 = .ok (.ireturn, 1) := by decide +kernel
theorem d_Mo_sizeTo_0 : decode b_Mo_sizeTo 0 = .ok (.aload_n 0, 1) := by decide +kernel
theorem d_Mo_sizeTo_1 : decode b_Mo_sizeTo 1 = .ok (.iconst 0, 1) := by decide +kernel
theorem d_Mo_sizeTo_2 : decode b_Mo_sizeTo 2 = .ok (.putfield 85, 3) := by decide +kernel
theorem d_Mo_sizeTo_5 : decode b_Mo_sizeTo 5 = .ok (.aload_n 0, 1) := by decide +kernel
theorem d_Mo_sizeTo_6 : decode b_Mo_sizeTo 6 = .ok (.iload_n 1, 1) := by decide +kernel
theorem d_Mo_sizeTo_7 : decode b_Mo_sizeTo 7 = .ok (.invokevirtual 199, 3) := by decide +kernel
theorem d_Mo_sizeTo_10 : decode b_Mo_sizeTo 10 = .ok (.ireturn, 1) := by decide +kernel
theorem d_Mo_outKind_0 : decode b_Mo_outKind 0 = .ok (.aload_n 0, 1) := by decide +kernel
theorem d_Mo_outKind_1 : decode b_Mo_outKind 1 = .ok (.aload_n 0, 1) := by decide +kernel
theorem d_Mo_outKind_2 : decode b_Mo_outKind 2 = .ok (.iload_n 1, 1) := by decide +kernel
theorem d_Mo_outKind_3 : decode b_Mo_outKind 3 = .ok (.invokevirtual 223, 3) := by decide +kernel
theorem d_Mo_outKind_6 : decode b_Mo_outKind 6 = .ok (.ifCond .eq 7, 3) := by decide +kernel
theorem d_Mo_outKind_9 : decode b_Mo_outKind 9 = .ok (.iconst 1, 1) := by decide +kernel
theorem d_Mo_outKind_10 : decode b_Mo_outKind 10 = .ok (.goto 4, 3) := by decide +kernel
theorem d_Mo_outKind_13 : decode b_Mo_outKind 13 = .ok (.iconst 0, 1) := by decide +kernel
theorem d_Mo_outKind_14 : decode b_Mo_outKind 14 = .ok (.putfield 85, 3) := by decide +kernel
theorem d_Mo_outKind_17 : decode b_Mo_outKind 17 = .ok (.aload_n 0, 1) := by decide +kernel
theorem d_Mo_outKind_18 : decode b_Mo_outKind 18 = .ok (.getfield 85, 3) := by decide +kernel
theorem d_Mo_outKind_21 : decode b_Mo_outKind 21 = .ok (.ifCond .eq 7, 3) := by decide +kernel
theorem d_Mo_outKind_24 : decode b_Mo_outKind 24 = .ok (.iconst 0, 1) := by decide +kernel
theorem d_Mo_outKind_25 : decode b_Mo_outKind 25 = .ok (.goto 13, 3) := by decide +kernel
theorem d_Mo_outKind_28 : decode b_Mo_outKind 28 = .ok (.aload_n 0, 1) := by decide +kernel
theorem d_Mo_outKind_29 : decode b_Mo_outKind 29 = .ok (.getfield 16, 3) := by decide +kernel
theorem d_Mo_outKind_32 : decode b_Mo_outKind 32 = .ok (.aload_n 0, 1) := by decide +kernel
theorem d_Mo_outKind_33 : decode b_Mo_outKind 33 = .ok (.iload_n 1, 1) := by decide +kernel
theorem d_Mo_outKind_34 : decode b_Mo_outKind 34 = .ok (.invokevirtual 226, 3) := by decide +kernel
theorem d_Mo_outKind_37 : decode b_Mo_outKind 37 = .ok (.iaload, 1) := by decide +kernel
theorem d_Mo_outKind_38 : decode b_Mo_outKind 38 = .ok (.ireturn, 1) := by decide +kernel
