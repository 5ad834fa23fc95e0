/-! decode rows: by a program -/
theorem d_Mo_noOut_0 : decode b_Mo_noOut 0 = .ok (.iload_n 1, 1) := by decide +kernel
theorem d_Mo_noOut_1 : decode b_Mo_noOut 1 = .ok (.ifCond .lt 17, 3) := by decide +kernel
theorem d_Mo_noOut_4 : decode b_Mo_noOut 4 = .ok (.iload_n 1, 1) := by decide +kernel
theorem d_Mo_noOut_5 : decode b_Mo_noOut 5 = .ok (.bipush 11, 2) := by decide +kernel
theorem d_Mo_noOut_7 : decode b_Mo_noOut 7 = .ok (.if_icmp .gt 11, 3) := by decide +kernel
theorem d_Mo_noOut_10 : decode b_Mo_noOut 10 = .ok (.iload_n 1, 1) := by decide +kernel
theorem d_Mo_noOut_11 : decode b_Mo_noOut 11 = .ok (.aload_n 0, 1) := by decide +kernel
theorem d_Mo_noOut_12 : decode b_Mo_noOut 12 = .ok (.getfield 92, 3) := by decide +kernel
theorem d_Mo_noOut_15 : decode b_Mo_noOut 15 = .ok (.if_icmp .lt 7, 3) := by decide +kernel
theorem d_Mo_noOut_18 : decode b_Mo_noOut 18 = .ok (.iconst 1, 1) := by decide +kernel
theorem d_Mo_noOut_19 : decode b_Mo_noOut 19 = .ok (.goto 4, 3) := by decide +kernel
theorem d_Mo_noOut_22 : decode b_Mo_noOut 22 = .ok (.iconst 0, 1) := by decide +kernel
theorem d_Mo_noOut_23 : decode b_Mo_noOut 23 = .ok (.ireturn, 1) := by decide +kernel
theorem d_Mo_place_0 : decode b_Mo_place 0 = .ok (.aload_n 0, 1) := by decide +kernel
theorem d_Mo_place_1 : decode b_Mo_place 1 = .ok (.getfield 92, 3) := by decide +kernel
theorem d_Mo_place_4 : decode b_Mo_place 4 = .ok (.iconst 1, 1) := by decide +kernel
theorem d_Mo_place_5 : decode b_Mo_place 5 = .ok (.isub, 1) := by decide +kernel
theorem d_Mo_place_6 : decode b_Mo_place 6 = .ok (.iload_n 1, 1) := by decide +kernel
theorem d_Mo_place_7 : decode b_Mo_place 7 = .ok (.isub, 1) := by decide +kernel
theorem d_Mo_place_8 : decode b_Mo_place 8 = .ok (.bipush 12, 2) := by decide +kernel
theorem d_Mo_place_10 : decode b_Mo_place 10 = .ok (.irem, 1) := by decide +kernel
theorem d_Mo_place_11 : decode b_Mo_place 11 = .ok (.ireturn, 1) := by decide +kernel
theorem d_Mo_outTo_0 : decode b_Mo_outTo 0 = .ok (.aload_n 0, 1) := by decide +kernel
theorem d_Mo_outTo_1 : decode b_Mo_outTo 1 = .ok (.aload_n 0, 1) := by decide +kernel
theorem d_Mo_outTo_2 : decode b_Mo_outTo 2 = .ok (.iload_n 1, 1) := by decide +kernel
theorem d_Mo_outTo_3 : decode b_Mo_outTo 3 = .ok (.invokevirtual 223, 3) := by decide +kernel
theorem d_Mo_outTo_6 : decode b_Mo_outTo 6 = .ok (.ifCond .eq 7, 3) := by decide +kernel
theorem d_Mo_outTo_9 : decode b_Mo_outTo 9 = .ok (.iconst 1, 1) := by decide +kernel
theorem d_Mo_outTo_10 : decode b_Mo_outTo 10 = .ok (.goto 4, 3) := by decide +kernel
theorem d_Mo_outTo_13 : decode b_Mo_outTo 13 = .ok (.iconst 0, 1) := by decide +kernel
theorem d_Mo_outTo_14 : decode b_Mo_outTo 14 = .ok (.putfield 85, 3) := by decide +kernel
theorem d_Mo_outTo_17 : decode b_Mo_outTo 17 = .ok (.aload_n 0, 1) := by decide +kernel
theorem d_Mo_outTo_18 : decode b_Mo_outTo 18 = .ok (.getfield 85, 3) := by decide +kernel
theorem d_Mo_outTo_21 : decode b_Mo_outTo 21 = .ok (.ifCond .eq 7, 3) := by decide +kernel
theorem d_Mo_outTo_24 : decode b_Mo_outTo 24 = .ok (.iconst 0, 1) := by decide +kernel
theorem d_Mo_outTo_25 : decode b_Mo_outTo 25 = .ok (.goto 13, 3) := by decide +kernel
theorem d_Mo_outTo_28 : decode b_Mo_outTo 28 = .ok (.aload_n 0, 1) := by decide +kernel
theorem d_Mo_outTo_29 : decode b_Mo_outTo 29 = .ok (.getfield 20, 3) := by decide +kernel
theorem d_Mo_outTo_32 : decode b_Mo_outTo 32 = .ok (.aload_n 0, 1) := by decide +kernel
theorem d_Mo_outTo_33 : decode b_Mo_outTo 33 = .ok (.iload_n 1, 1) := by decide +kernel
theorem d_Mo_outTo_34 : decode b_Mo_outTo 34 = .ok (.invokevirtual 226, 3) := by decide +kernel
theorem d_Mo_outTo_37 : decode b_Mo_outTo 37 = .ok (.iaload, 1) := by decide +kernel
theorem d_Mo_outTo_38 : decode b_Mo_outTo 38 = .ok (.ireturn, 1) := by decide +kernel
theorem d_Mo_outX_0 : decode b_Mo_outX 0 = .ok (.aload_n 0, 1) := by decide +kernel
theorem d_Mo_outX_1 : decode b_Mo_outX 1 = .ok (.aload_n 0, 1) := by decide +kernel
theorem d_Mo_outX_2 : decode b_Mo_outX 2 = .ok (.iload_n 1, 1) := by decide +kernel
theorem d_Mo_outX_3 : decode b_Mo_outX 3 = .ok (.invokevirtual 223, 3) := by decide +kernel
theorem d_Mo_outX_6 : decode b_Mo_outX 6 = .ok (.ifCond .eq 7, 3) := by decide +kernel
theorem d_Mo_outX_9 : decode b_Mo_outX 9 = .ok (.iconst 1, 1) := by decide +kernel
theorem d_Mo_outX_10 : decode b_Mo_outX 10 = .ok (.goto 4, 3) := by decide +kernel
theorem d_Mo_outX_13 : decode b_Mo_outX 13 = .ok (.iconst 0, 1) := by decide +kernel
theorem d_Mo_outX_14 : decode b_Mo_outX 14 = .ok (.putfield 85, 3) := by decide +kernel
theorem d_Mo_outX_17 : decode b_Mo_outX 17 = .ok (.aload_n 0, 1) := by decide +kernel
theorem d_Mo_outX_18 : decode b_Mo_outX 18 = .ok (.getfield 85, 3) := by decide +kernel
theorem d_Mo_outX_21 : decode b_Mo_outX 21 = .ok (.ifCond .eq 7, 3) := by decide +kernel
theorem d_Mo_outX_24 : decode b_Mo_outX 24 = .ok (.iconst 0, 1) := by decide +kernel
theorem d_Mo_outX_25 : decode b_Mo_outX 25 = .ok (.goto 13, 3) := by decide +kernel
theorem d_Mo_outX_28 : decode b_Mo_outX 28 = .ok (.aload_n 0, 1) := by decide +kernel
theorem d_Mo_outX_29 : decode b_Mo_outX 29 = .ok (.getfield 23, 3) := by decide +kernel
theorem d_Mo_outX_32 : decode b_Mo_outX 32 = .ok (.aload_n 0, 1) := by decide +kernel
theorem d_Mo_outX_33 : decode b_Mo_outX 33 = .ok (.iload_n 1, 1) := by decide +kernel
theorem d_Mo_outX_34 : decode b_Mo_outX 34 = .ok (.invokevirtual 226, 3) := by decide +kernel
theorem d_Mo_outX_37 : decode b_Mo_outX 37 = .ok (.iaload, 1) := by decide +kernel
theorem d_Mo_outX_38 : decode b_Mo_outX 38 = .ok (.ireturn, 1) := by decide +kernel
theorem d_La_law_0 : decode b_La_law 0 = .ok (.new 8, 3) := by decide +kernel
theorem d_La_law_3 : decode b_La_law 3 = .ok (.dup, 1) := by decide +kernel
theorem d_La_law_4 : decode b_La_law 4 = .ok (.aload_n 0, 1) := by decide +kernel
theorem d_La_law_5 : decode b_La_law 5 = .ok (.iconst 0, 1) := by decide +kernel
theorem d_La_law_6 : decode b_La_law 6 = .ok (.invokestatic 66, 3) := by decide +kernel
theorem d_La_law_9 : decode b_La_law 9 = .ok (.invokespecial 72, 3) := by decide +kernel
theorem d_La_law_12 : decode b_La_law 12 = .ok (.astore_n 1, 1) := by decide +kernel
theorem d_La_law_13 : decode b_La_law 13 = .ok (.new 74, 3) := by decide +kernel
theorem d_La_law_16 : decode b_La_law 16 = .ok (.dup, 1) := by decide +kernel
theorem d_La_law_17 : decode b_La_law 17 = .ok (.aload_n 0, 1) := by decide +kernel
theorem d_La_law_18 : decode b_La_law 18 = .ok (.iconst 0, 1) := by decide +kernel
theorem d_La_law_19 : decode b_La_law 19 = .ok (.invokestatic 66, 3) := by decide +kernel
theorem d_La_law_22 : decode b_La_law 22 = .ok (.invokespecial 76, 3) := by decide +kernel
theorem d_La_law_25 : decode b_La_law 25 = .ok (.astore_n 2, 1) := by decide +kernel
theorem d_La_law_26 : decode b_La_law 26 = .ok (.iconst 1, 1) := by decide +kernel
theorem d_La_law_27 : decode b_La_law 27 = .ok (.newarray .long, 2) := by decide +kernel
theorem d_La_law_29 : decode b_La_law 29 = .ok (.astore_n 3, 1) := by decide +kernel
theorem d_La_law_30 : decode b_La_law 30 = .ok (.iconst 1, 1) := by decide +kernel
theorem d_La_law_31 : decode b_La_law 31 = .ok (.istore 4, 2) := by decide +kernel
theorem d_La_law_33 : decode b_La_law 33 = .ok (.iload 4, 2) := by decide +kernel
theorem d_La_law_35 : decode b_La_law 35 = .ok (.aload_n 0, 1) := by decide +kernel
theorem d_La_law_36 : decode b_La_law 36 = .ok (.arraylength, 1) := by decide +kernel
theorem d_La_law_37 : decode b_La_law 37 = .ok (.iconst 5, 1) := by decide +kernel
theorem d_La_law_38 : decode b_La_law 38 = .ok (.isub, 1) := by decide +kernel
theorem d_La_law_39 : decode b_La_law 39 = .ok (.if_icmp .gt 1037, 3) := by decide +kernel
theorem d_La_law_42 : decode b_La_law 42 = .ok (.aload_n 0, 1) := by decide +kernel
theorem d_La_law_43 : decode b_La_law 43 = .ok (.iload 4, 2) := by decide +kernel
theorem d_La_law_45 : decode b_La_law 45 = .ok (.iaload, 1) := by decide +kernel
theorem d_La_law_46 : decode b_La_law 46 = .ok (.bipush 31, 2) := by decide +kernel
theorem d_La_law_48 : decode b_La_law 48 = .ok (.iand, 1) := by decide +kernel
theorem d_La_law_49 : decode b_La_law 49 = .ok (.tableswitch 1021 0 16 #[83, 119, 191, 263, 323, 383, 451, 499, 567, 635, 691, 747, 803, 828, 853, 909, 965], 83) := by decide +kernel
theorem d_La_law_132 : decode b_La_law 132 = .ok (.aload_n 1, 1) := by decide +kernel
theorem d_La_law_133 : decode b_La_law 133 = .ok (.aload_n 0, 1) := by decide +kernel
theorem d_La_law_134 : decode b_La_law 134 = .ok (.iload 4, 2) := by decide +kernel
theorem d_La_law_136 : decode b_La_law 136 = .ok (.iconst 1, 1) := by decide +kernel
theorem d_La_law_137 : decode b_La_law 137 = .ok (.iadd, 1) := by decide +kernel
theorem d_La_law_138 : decode b_La_law 138 = .ok (.iaload, 1) := by decide +kernel
theorem d_La_law_139 : decode b_La_law 139 = .ok (.invokestatic 77, 3) := by decide +kernel
theorem d_La_law_142 : decode b_La_law 142 = .ok (.istore 5, 2) := by decide +kernel
theorem d_La_law_144 : decode b_La_law 144 = .ok (.aload_n 2, 1) := by decide +kernel
theorem d_La_law_145 : decode b_La_law 145 = .ok (.aload_n 0, 1) := by decide +kernel
theorem d_La_law_146 : decode b_La_law 146 = .ok (.iload 4, 2) := by decide +kernel
theorem d_La_law_148 : decode b_La_law 148 = .ok (.iconst 1, 1) := by decide +kernel
theorem d_La_law_149 : decode b_La_law 149 = .ok (.iadd, 1) := by decide +kernel
theorem d_La_law_150 : decode b_La_law 150 = .ok (.iaload, 1) := by decide +kernel
theorem d_La_law_151 : decode b_La_law 151 = .ok (.invokevirtual 80, 3) := by decide +kernel
theorem d_La_law_154 : decode b_La_law 154 = .ok (.aload_n 2, 1) := by decide +kernel
theorem d_La_law_155 : decode b_La_law 155 = .ok (.invokevirtual 81, 3) := by decide +kernel
theorem d_La_law_158 : decode b_La_law 158 = .ok (.iload 5, 2) := by decide +kernel
theorem d_La_law_160 : decode b_La_law 160 = .ok (.if_icmp .eq 5, 3) := by decide +kernel
theorem d_La_law_163 : decode b_La_law 163 = .ok (.iconst 0, 1) := by decide +kernel
theorem d_La_law_164 : decode b_La_law 164 = .ok (.ireturn, 1) := by decide +kernel
theorem d_La_law_165 : decode b_La_law 165 = .ok (.goto 905, 3) := by decide +kernel
theorem d_La_law_168 : decode b_La_law 168 = .ok (.aload_n 1, 1) := by decide +kernel
theorem d_La_law_169 : decode b_La_law 169 = .ok (.aload_n 0, 1) := by decide +kernel
theorem d_La_law_170 : decode b_La_law 170 = .ok (.iload 4, 2) := by decide +kernel
theorem d_La_law_172 : decode b_La_law 172 = .ok (.iconst 1, 1) := by decide +kernel
theorem d_La_law_173 : decode b_La_law 173 = .ok (.iadd, 1) := by decide +kernel
theorem d_La_law_174 : decode b_La_law 174 = .ok (.iaload, 1) := by decide +kernel
theorem d_La_law_175 : decode b_La_law 175 = .ok (.aload_n 0, 1) := by decide +kernel
theorem d_La_law_176 : decode b_La_law 176 = .ok (.iload 4, 2) := by decide +kernel
theorem d_La_law_178 : decode b_La_law 178 = .ok (.iconst 2, 1) := by decide +kernel
theorem d_La_law_179 : decode b_La_law 179 = .ok (.iadd, 1) := by decide +kernel
theorem d_La_law_180 : decode b_La_law 180 = .ok (.iaload, 1) := by decide +kernel
theorem d_La_law_181 : decode b_La_law 181 = .ok (.aload_n 0, 1) := by decide +kernel
theorem d_La_law_182 : decode b_La_law 182 = .ok (.iload 4, 2) := by decide +kernel
theorem d_La_law_184 : decode b_La_law 184 = .ok (.iconst 3, 1) := by decide +kernel
theorem d_La_law_185 : decode b_La_law 185 = .ok (.iadd, 1) := by decide +kernel
theorem d_La_law_186 : decode b_La_law 186 = .ok (.iaload, 1) := by decide +kernel
theorem d_La_law_187 : decode b_La_law 187 = .ok (.aload_n 0, 1) := by decide +kernel
theorem d_La_law_188 : decode b_La_law 188 = .ok (.iload 4, 2) := by decide +kernel
theorem d_La_law_190 : decode b_La_law 190 = .ok (.iconst 4, 1) := by decide +kernel
theorem d_La_law_191 : decode b_La_law 191 = .ok (.iadd, 1) := by decide +kernel
theorem d_La_law_192 : decode b_La_law 192 = .ok (.iaload, 1) := by decide +kernel
theorem d_La_law_193 : decode b_La_law 193 = .ok (.invokestatic 85, 3) := by decide +kernel
theorem d_La_law_196 : decode b_La_law 196 = .ok (.istore 5, 2) := by decide +kernel
theorem d_La_law_198 : decode b_La_law 198 = .ok (.aload_n 2, 1) := by decide +kernel
theorem d_La_law_199 : decode b_La_law 199 = .ok (.aload_n 0, 1) := by decide +kernel
theorem d_La_law_200 : decode b_La_law 200 = .ok (.iload 4, 2) := by decide +kernel
theorem d_La_law_202 : decode b_La_law 202 = .ok (.iconst 1, 1) := by decide +kernel
theorem d_La_law_203 : decode b_La_law 203 = .ok (.iadd, 1) := by decide +kernel
theorem d_La_law_204 : decode b_La_law 204 = .ok (.iaload, 1) := by decide +kernel
theorem d_La_law_205 : decode b_La_law 205 = .ok (.aload_n 0, 1) := by decide +kernel
theorem d_La_law_206 : decode b_La_law 206 = .ok (.iload 4, 2) := by decide +kernel
theorem d_La_law_208 : decode b_La_law 208 = .ok (.iconst 2, 1) := by decide +kernel
theorem d_La_law_209 : decode b_La_law 209 = .ok (.iadd, 1) := by decide +kernel
theorem d_La_law_210 : decode b_La_law 210 = .ok (.iaload, 1) := by decide +kernel
theorem d_La_law_211 : decode b_La_law 211 = .ok (.aload_n 0, 1) := by decide +kernel
theorem d_La_law_212 : decode b_La_law 212 = .ok (.iload 4, 2) := by decide +kernel
theorem d_La_law_214 : decode b_La_law 214 = .ok (.iconst 3, 1) := by decide +kernel
theorem d_La_law_215 : decode b_La_law 215 = .ok (.iadd, 1) := by decide +kernel
theorem d_La_law_216 : decode b_La_law 216 = .ok (.iaload, 1) := by decide +kernel
theorem d_La_law_217 : decode b_La_law 217 = .ok (.aload_n 0, 1) := by decide +kernel
theorem d_La_law_218 : decode b_La_law 218 = .ok (.iload 4, 2) := by decide +kernel
theorem d_La_law_220 : decode b_La_law 220 = .ok (.iconst 4, 1) := by decide +kernel
theorem d_La_law_221 : decode b_La_law 221 = .ok (.iadd, 1) := by decide +kernel
theorem d_La_law_222 : decode b_La_law 222 = .ok (.iaload, 1) := by decide +kernel
theorem d_La_law_223 : decode b_La_law 223 = .ok (.invokevirtual 88, 3) := by decide +kernel
theorem d_La_law_226 : decode b_La_law 226 = .ok (.aload_n 2, 1) := by decide +kernel
theorem d_La_law_227 : decode b_La_law 227 = .ok (.invokevirtual 81, 3) := by decide +kernel
theorem d_La_law_230 : decode b_La_law 230 = .ok (.iload 5, 2) := by decide +kernel
theorem d_La_law_232 : decode b_La_law 232 = .ok (.if_icmp .eq 5, 3) := by decide +kernel
theorem d_La_law_235 : decode b_La_law 235 = .ok (.iconst 0, 1) := by decide +kernel
theorem d_La_law_236 : decode b_La_law 236 = .ok (.ireturn, 1) := by decide +kernel
theorem d_La_law_237 : decode b_La_law 237 = .ok (.goto 833, 3) := by decide +kernel
theorem d_La_law_240 : decode b_La_law 240 = .ok (.aload_n 1, 1) := by decide +kernel
theorem d_La_law_241 : decode b_La_law 241 = .ok (.aload_n 0, 1) := by decide +kernel
theorem d_La_law_242 : decode b_La_law 242 = .ok (.iload 4, 2) := by decide +kernel
theorem d_La_law_244 : decode b_La_law 244 = .ok (.iconst 1, 1) := by decide +kernel
theorem d_La_law_245 : decode b_La_law 245 = .ok (.iadd, 1) := by decide +kernel
theorem d_La_law_246 : decode b_La_law 246 = .ok (.iaload, 1) := by decide +kernel
theorem d_La_law_247 : decode b_La_law 247 = .ok (.aload_n 0, 1) := by decide +kernel
theorem d_La_law_248 : decode b_La_law 248 = .ok (.iload 4, 2) := by decide +kernel
theorem d_La_law_250 : decode b_La_law 250 = .ok (.iconst 2, 1) := by decide +kernel
theorem d_La_law_251 : decode b_La_law 251 = .ok (.iadd, 1) := by decide +kernel
theorem d_La_law_252 : decode b_La_law 252 = .ok (.iaload, 1) := by decide +kernel
theorem d_La_law_253 : decode b_La_law 253 = .ok (.aload_n 0, 1) := by decide +kernel
theorem d_La_law_254 : decode b_La_law 254 = .ok (.iload 4, 2) := by decide +kernel
theorem d_La_law_256 : decode b_La_law 256 = .ok (.iconst 3, 1) := by decide +kernel
theorem d_La_law_257 : decode b_La_law 257 = .ok (.iadd, 1) := by decide +kernel
theorem d_La_law_258 : decode b_La_law 258 = .ok (.iaload, 1) := by decide +kernel
theorem d_La_law_259 : decode b_La_law 259 = .ok (.aload_n 0, 1) := by decide +kernel
theorem d_La_law_260 : decode b_La_law 260 = .ok (.iload 4, 2) := by decide +kernel
theorem d_La_law_262 : decode b_La_law 262 = .ok (.iconst 4, 1) := by decide +kernel
theorem d_La_law_263 : decode b_La_law 263 = .ok (.iadd, 1) := by decide +kernel
theorem d_La_law_264 : decode b_La_law 264 = .ok (.iaload, 1) := by decide +kernel
theorem d_La_law_265 : decode b_La_law 265 = .ok (.invokestatic 89, 3) := by decide +kernel
theorem d_La_law_268 : decode b_La_law 268 = .ok (.istore 5, 2) := by decide +kernel
theorem d_La_law_270 : decode b_La_law 270 = .ok (.aload_n 2, 1) := by decide +kernel
theorem d_La_law_271 : decode b_La_law 271 = .ok (.aload_n 0, 1) := by decide +kernel
theorem d_La_law_272 : decode b_La_law 272 = .ok (.iload 4, 2) := by decide +kernel
theorem d_La_law_274 : decode b_La_law 274 = .ok (.iconst 1, 1) := by decide +kernel
theorem d_La_law_275 : decode b_La_law 275 = .ok (.iadd, 1) := by decide +kernel
theorem d_La_law_276 : decode b_La_law 276 = .ok (.iaload, 1) := by decide +kernel
theorem d_La_law_277 : decode b_La_law 277 = .ok (.aload_n 0, 1) := by decide +kernel
theorem d_La_law_278 : decode b_La_law 278 = .ok (.iload 4, 2) := by decide +kernel
theorem d_La_law_280 : decode b_La_law 280 = .ok (.iconst 2, 1) := by decide +kernel
theorem d_La_law_281 : decode b_La_law 281 = .ok (.iadd, 1) := by decide +kernel
theorem d_La_law_282 : decode b_La_law 282 = .ok (.iaload, 1) := by decide +kernel
theorem d_La_law_283 : decode b_La_law 283 = .ok (.aload_n 0, 1) := by decide +kernel
theorem d_La_law_284 : decode b_La_law 284 = .ok (.iload 4, 2) := by decide +kernel
theorem d_La_law_286 : decode b_La_law 286 = .ok (.iconst 3, 1) := by decide +kernel
theorem d_La_law_287 : decode b_La_law 287 = .ok (.iadd, 1) := by decide +kernel
theorem d_La_law_288 : decode b_La_law 288 = .ok (.iaload, 1) := by decide +kernel
theorem d_La_law_289 : decode b_La_law 289 = .ok (.aload_n 0, 1) := by decide +kernel
theorem d_La_law_290 : decode b_La_law 290 = .ok (.iload 4, 2) := by decide +kernel
theorem d_La_law_292 : decode b_La_law 292 = .ok (.iconst 4, 1) := by decide +kernel
theorem d_La_law_293 : decode b_La_law 293 = .ok (.iadd, 1) := by decide +kernel
theorem d_La_law_294 : decode b_La_law 294 = .ok (.iaload, 1) := by decide +kernel
theorem d_La_law_295 : decode b_La_law 295 = .ok (.invokevirtual 91, 3) := by decide +kernel
theorem d_La_law_298 : decode b_La_law 298 = .ok (.aload_n 2, 1) := by decide +kernel
theorem d_La_law_299 : decode b_La_law 299 = .ok (.invokevirtual 81, 3) := by decide +kernel
theorem d_La_law_302 : decode b_La_law 302 = .ok (.iload 5, 2) := by decide +kernel
theorem d_La_law_304 : decode b_La_law 304 = .ok (.if_icmp .eq 5, 3) := by decide +kernel
theorem d_La_law_307 : decode b_La_law 307 = .ok (.iconst 0, 1) := by decide +kernel
theorem d_La_law_308 : decode b_La_law 308 = .ok (.ireturn, 1) := by decide +kernel
theorem d_La_law_309 : decode b_La_law 309 = .ok (.goto 761, 3) := by decide +kernel
theorem d_La_law_312 : decode b_La_law 312 = .ok (.aload_n 1, 1) := by decide +kernel
theorem d_La_law_313 : decode b_La_law 313 = .ok (.aload_n 0, 1) := by decide +kernel
theorem d_La_law_314 : decode b_La_law 314 = .ok (.iload 4, 2) := by decide +kernel
theorem d_La_law_316 : decode b_La_law 316 = .ok (.iconst 1, 1) := by decide +kernel
theorem d_La_law_317 : decode b_La_law 317 = .ok (.iadd, 1) := by decide +kernel
theorem d_La_law_318 : decode b_La_law 318 = .ok (.iaload, 1) := by decide +kernel
theorem d_La_law_319 : decode b_La_law 319 = .ok (.aload_n 0, 1) := by decide +kernel
theorem d_La_law_320 : decode b_La_law 320 = .ok (.iload 4, 2) := by decide +kernel
theorem d_La_law_322 : decode b_La_law 322 = .ok (.iconst 2, 1) := by decide +kernel
theorem d_La_law_323 : decode b_La_law 323 = .ok (.iadd, 1) := by decide +kernel
theorem d_La_law_324 : decode b_La_law 324 = .ok (.iaload, 1) := by decide +kernel
theorem d_La_law_325 : decode b_La_law 325 = .ok (.aload_n 0, 1) := by decide +kernel
theorem d_La_law_326 : decode b_La_law 326 = .ok (.iload 4, 2) := by decide +kernel
theorem d_La_law_328 : decode b_La_law 328 = .ok (.iconst 3, 1) := by decide +kernel
theorem d_La_law_329 : decode b_La_law 329 = .ok (.iadd, 1) := by decide +kernel
theorem d_La_law_330 : decode b_La_law 330 = .ok (.iaload, 1) := by decide +kernel
theorem d_La_law_331 : decode b_La_law 331 = .ok (.invokestatic 92, 3) := by decide +kernel
theorem d_La_law_334 : decode b_La_law 334 = .ok (.istore 5, 2) := by decide +kernel
theorem d_La_law_336 : decode b_La_law 336 = .ok (.aload_n 2, 1) := by decide +kernel
theorem d_La_law_337 : decode b_La_law 337 = .ok (.aload_n 0, 1) := by decide +kernel
theorem d_La_law_338 : decode b_La_law 338 = .ok (.iload 4, 2) := by decide +kernel
theorem d_La_law_340 : decode b_La_law 340 = .ok (.iconst 1, 1) := by decide +kernel
theorem d_La_law_341 : decode b_La_law 341 = .ok (.iadd, 1) := by decide +kernel
theorem d_La_law_342 : decode b_La_law 342 = .ok (.iaload, 1) := by decide +kernel
theorem d_La_law_343 : decode b_La_law 343 = .ok (.aload_n 0, 1) := by decide +kernel
theorem d_La_law_344 : decode b_La_law 344 = .ok (.iload 4, 2) := by decide +kernel
theorem d_La_law_346 : decode b_La_law 346 = .ok (.iconst 2, 1) := by decide +kernel
theorem d_La_law_347 : decode b_La_law 347 = .ok (.iadd, 1) := by decide +kernel
theorem d_La_law_348 : decode b_La_law 348 = .ok (.iaload, 1) := by decide +kernel
theorem d_La_law_349 : decode b_La_law 349 = .ok (.aload_n 0, 1) := by decide +kernel
theorem d_La_law_350 : decode b_La_law 350 = .ok (.iload 4, 2) := by decide +kernel
theorem d_La_law_352 : decode b_La_law 352 = .ok (.iconst 3, 1) := by decide +kernel
theorem d_La_law_353 : decode b_La_law 353 = .ok (.iadd, 1) := by decide +kernel
theorem d_La_law_354 : decode b_La_law 354 = .ok (.iaload, 1) := by decide +kernel
theorem d_La_law_355 : decode b_La_law 355 = .ok (.invokevirtual 95, 3) := by decide +kernel
theorem d_La_law_358 : decode b_La_law 358 = .ok (.aload_n 2, 1) := by decide +kernel
theorem d_La_law_359 : decode b_La_law 359 = .ok (.invokevirtual 81, 3) := by decide +kernel
theorem d_La_law_362 : decode b_La_law 362 = .ok (.iload 5, 2) := by decide +kernel
theorem d_La_law_364 : decode b_La_law 364 = .ok (.if_icmp .eq 5, 3) := by decide +kernel
theorem d_La_law_367 : decode b_La_law 367 = .ok (.iconst 0, 1) := by decide +kernel
theorem d_La_law_368 : decode b_La_law 368 = .ok (.ireturn, 1) := by decide +kernel
theorem d_La_law_369 : decode b_La_law 369 = .ok (.goto 701, 3) := by decide +kernel
theorem d_La_law_372 : decode b_La_law 372 = .ok (.aload_n 1, 1) := by decide +kernel
theorem d_La_law_373 : decode b_La_law 373 = .ok (.aload_n 0, 1) := by decide +kernel
theorem d_La_law_374 : decode b_La_law 374 = .ok (.iload 4, 2) := by decide +kernel
theorem d_La_law_376 : decode b_La_law 376 = .ok (.iconst 1, 1) := by decide +kernel
theorem d_La_law_377 : decode b_La_law 377 = .ok (.iadd, 1) := by decide +kernel
theorem d_La_law_378 : decode b_La_law 378 = .ok (.iaload, 1) := by decide +kernel
theorem d_La_law_379 : decode b_La_law 379 = .ok (.aload_n 0, 1) := by decide +kernel
theorem d_La_law_380 : decode b_La_law 380 = .ok (.iload 4, 2) := by decide +kernel
theorem d_La_law_382 : decode b_La_law 382 = .ok (.iconst 2, 1) := by decide +kernel
theorem d_La_law_383 : decode b_La_law 383 = .ok (.iadd, 1) := by decide +kernel
theorem d_La_law_384 : decode b_La_law 384 = .ok (.iaload, 1) := by decide +kernel
theorem d_La_law_385 : decode b_La_law 385 = .ok (.aload_n 0, 1) := by decide +kernel
theorem d_La_law_386 : decode b_La_law 386 = .ok (.iload 4, 2) := by decide +kernel
theorem d_La_law_388 : decode b_La_law 388 = .ok (.iconst 3, 1) := by decide +kernel
theorem d_La_law_389 : decode b_La_law 389 = .ok (.iadd, 1) := by decide +kernel
theorem d_La_law_390 : decode b_La_law 390 = .ok (.iaload, 1) := by decide +kernel
theorem d_La_law_391 : decode b_La_law 391 = .ok (.invokestatic 96, 3) := by decide +kernel
theorem d_La_law_394 : decode b_La_law 394 = .ok (.istore 5, 2) := by decide +kernel
theorem d_La_law_396 : decode b_La_law 396 = .ok (.aload_n 2, 1) := by decide +kernel
theorem d_La_law_397 : decode b_La_law 397 = .ok (.aload_n 0, 1) := by decide +kernel
theorem d_La_law_398 : decode b_La_law 398 = .ok (.iload 4, 2) := by decide +kernel
theorem d_La_law_400 : decode b_La_law 400 = .ok (.iconst 1, 1) := by decide +kernel
theorem d_La_law_401 : decode b_La_law 401 = .ok (.iadd, 1) := by decide +kernel
theorem d_La_law_402 : decode b_La_law 402 = .ok (.iaload, 1) := by decide +kernel
theorem d_La_law_403 : decode b_La_law 403 = .ok (.aload_n 0, 1) := by decide +kernel
theorem d_La_law_404 : decode b_La_law 404 = .ok (.iload 4, 2) := by decide +kernel
theorem d_La_law_406 : decode b_La_law 406 = .ok (.iconst 2, 1) := by decide +kernel
theorem d_La_law_407 : decode b_La_law 407 = .ok (.iadd, 1) := by decide +kernel
theorem d_La_law_408 : decode b_La_law 408 = .ok (.iaload, 1) := by decide +kernel
theorem d_La_law_409 : decode b_La_law 409 = .ok (.aload_n 0, 1) := by decide +kernel
theorem d_La_law_410 : decode b_La_law 410 = .ok (.iload 4, 2) := by decide +kernel
theorem d_La_law_412 : decode b_La_law 412 = .ok (.iconst 3, 1) := by decide +kernel
theorem d_La_law_413 : decode b_La_law 413 = .ok (.iadd, 1) := by decide +kernel
theorem d_La_law_414 : decode b_La_law 414 = .ok (.iaload, 1) := by decide +kernel
theorem d_La_law_415 : decode b_La_law 415 = .ok (.invokevirtual 98, 3) := by decide +kernel
theorem d_La_law_418 : decode b_La_law 418 = .ok (.aload_n 2, 1) := by decide +kernel
theorem d_La_law_419 : decode b_La_law 419 = .ok (.invokevirtual 81, 3) := by decide +kernel
theorem d_La_law_422 : decode b_La_law 422 = .ok (.iload 5, 2) := by decide +kernel
theorem d_La_law_424 : decode b_La_law 424 = .ok (.if_icmp .eq 5, 3) := by decide +kernel
theorem d_La_law_427 : decode b_La_law 427 = .ok (.iconst 0, 1) := by decide +kernel
theorem d_La_law_428 : decode b_La_law 428 = .ok (.ireturn, 1) := by decide +kernel
theorem d_La_law_429 : decode b_La_law 429 = .ok (.goto 641, 3) := by decide +kernel
theorem d_La_law_432 : decode b_La_law 432 = .ok (.aload_n 1, 1) := by decide +kernel
theorem d_La_law_433 : decode b_La_law 433 = .ok (.aload_n 0, 1) := by decide +kernel
theorem d_La_law_434 : decode b_La_law 434 = .ok (.iload 4, 2) := by decide +kernel
theorem d_La_law_436 : decode b_La_law 436 = .ok (.iconst 1, 1) := by decide +kernel
theorem d_La_law_437 : decode b_La_law 437 = .ok (.iadd, 1) := by decide +kernel
theorem d_La_law_438 : decode b_La_law 438 = .ok (.iaload, 1) := by decide +kernel
theorem d_La_law_439 : decode b_La_law 439 = .ok (.aload_n 0, 1) := by decide +kernel
theorem d_La_law_440 : decode b_La_law 440 = .ok (.iload 4, 2) := by decide +kernel
theorem d_La_law_442 : decode b_La_law 442 = .ok (.iconst 2, 1) := by decide +kernel
theorem d_La_law_443 : decode b_La_law 443 = .ok (.iadd, 1) := by decide +kernel
theorem d_La_law_444 : decode b_La_law 444 = .ok (.iaload, 1) := by decide +kernel
theorem d_La_law_445 : decode b_La_law 445 = .ok (.aload_n 3, 1) := by decide +kernel
theorem d_La_law_446 : decode b_La_law 446 = .ok (.invokestatic 99, 3) := by decide +kernel
theorem d_La_law_449 : decode b_La_law 449 = .ok (.istore 5, 2) := by decide +kernel
theorem d_La_law_451 : decode b_La_law 451 = .ok (.aload_n 2, 1) := by decide +kernel
theorem d_La_law_452 : decode b_La_law 452 = .ok (.aload_n 0, 1) := by decide +kernel
theorem d_La_law_453 : decode b_La_law 453 = .ok (.iload 4, 2) := by decide +kernel
theorem d_La_law_455 : decode b_La_law 455 = .ok (.iconst 1, 1) := by decide +kernel
theorem d_La_law_456 : decode b_La_law 456 = .ok (.iadd, 1) := by decide +kernel
theorem d_La_law_457 : decode b_La_law 457 = .ok (.iaload, 1) := by decide +kernel
theorem d_La_law_458 : decode b_La_law 458 = .ok (.aload_n 0, 1) := by decide +kernel
theorem d_La_law_459 : decode b_La_law 459 = .ok (.iload 4, 2) := by decide +kernel
theorem d_La_law_461 : decode b_La_law 461 = .ok (.iconst 2, 1) := by decide +kernel
theorem d_La_law_462 : decode b_La_law 462 = .ok (.iadd, 1) := by decide +kernel
theorem d_La_law_463 : decode b_La_law 463 = .ok (.iaload, 1) := by decide +kernel
theorem d_La_law_464 : decode b_La_law 464 = .ok (.invokevirtual 102, 3) := by decide +kernel
theorem d_La_law_467 : decode b_La_law 467 = .ok (.istore 6, 2) := by decide +kernel
theorem d_La_law_469 : decode b_La_law 469 = .ok (.aload_n 2, 1) := by decide +kernel
theorem d_La_law_470 : decode b_La_law 470 = .ok (.invokevirtual 81, 3) := by decide +kernel
theorem d_La_law_473 : decode b_La_law 473 = .ok (.iload 5, 2) := by decide +kernel
theorem d_La_law_475 : decode b_La_law 475 = .ok (.if_icmp .eq 5, 3) := by decide +kernel
theorem d_La_law_478 : decode b_La_law 478 = .ok (.iconst 0, 1) := by decide +kernel
theorem d_La_law_479 : decode b_La_law 479 = .ok (.ireturn, 1) := by decide +kernel
theorem d_La_law_480 : decode b_La_law 480 = .ok (.iload 5, 2) := by decide +kernel
theorem d_La_law_482 : decode b_La_law 482 = .ok (.ifCond .ne 15, 3) := by decide +kernel
theorem d_La_law_485 : decode b_La_law 485 = .ok (.aload_n 3, 1) := by decide +kernel
theorem d_La_law_486 : decode b_La_law 486 = .ok (.iconst 0, 1) := by decide +kernel
theorem d_La_law_487 : decode b_La_law 487 = .ok (.laload, 1) := by decide +kernel
theorem d_La_law_488 : decode b_La_law 488 = .ok (.iload 6, 2) := by decide +kernel
theorem d_La_law_490 : decode b_La_law 490 = .ok (.i2l, 1) := by decide +kernel
theorem d_La_law_491 : decode b_La_law 491 = .ok (.lcmp, 1) := by decide +kernel
theorem d_La_law_492 : decode b_La_law 492 = .ok (.ifCond .eq 5, 3) := by decide +kernel
theorem d_La_law_495 : decode b_La_law 495 = .ok (.iconst 0, 1) := by decide +kernel
theorem d_La_law_496 : decode b_La_law 496 = .ok (.ireturn, 1) := by decide +kernel
theorem d_La_law_497 : decode b_La_law 497 = .ok (.goto 573, 3) := by decide +kernel
theorem d_La_law_500 : decode b_La_law 500 = .ok (.aload_n 1, 1) := by decide +kernel
theorem d_La_law_501 : decode b_La_law 501 = .ok (.aload_n 0, 1) := by decide +kernel
theorem d_La_law_502 : decode b_La_law 502 = .ok (.iload 4, 2) := by decide +kernel
theorem d_La_law_504 : decode b_La_law 504 = .ok (.iconst 1, 1) := by decide +kernel
theorem d_La_law_505 : decode b_La_law 505 = .ok (.iadd, 1) := by decide +kernel
theorem d_La_law_506 : decode b_La_law 506 = .ok (.iaload, 1) := by decide +kernel
theorem d_La_law_507 : decode b_La_law 507 = .ok (.aload_n 0, 1) := by decide +kernel
theorem d_La_law_508 : decode b_La_law 508 = .ok (.iload 4, 2) := by decide +kernel
theorem d_La_law_510 : decode b_La_law 510 = .ok (.iconst 2, 1) := by decide +kernel
theorem d_La_law_511 : decode b_La_law 511 = .ok (.iadd, 1) := by decide +kernel
theorem d_La_law_512 : decode b_La_law 512 = .ok (.iaload, 1) := by decide +kernel
theorem d_La_law_513 : decode b_La_law 513 = .ok (.invokestatic 103, 3) := by decide +kernel
theorem d_La_law_516 : decode b_La_law 516 = .ok (.istore 5, 2) := by decide +kernel
theorem d_La_law_518 : decode b_La_law 518 = .ok (.aload_n 2, 1) := by decide +kernel
theorem d_La_law_519 : decode b_La_law 519 = .ok (.aload_n 0, 1) := by decide +kernel
theorem d_La_law_520 : decode b_La_law 520 = .ok (.iload 4, 2) := by decide +kernel
theorem d_La_law_522 : decode b_La_law 522 = .ok (.iconst 1, 1) := by decide +kernel
theorem d_La_law_523 : decode b_La_law 523 = .ok (.iadd, 1) := by decide +kernel
theorem d_La_law_524 : decode b_La_law 524 = .ok (.iaload, 1) := by decide +kernel
theorem d_La_law_525 : decode b_La_law 525 = .ok (.aload_n 0, 1) := by decide +kernel
theorem d_La_law_526 : decode b_La_law 526 = .ok (.iload 4, 2) := by decide +kernel
theorem d_La_law_528 : decode b_La_law 528 = .ok (.iconst 2, 1) := by decide +kernel
theorem d_La_law_529 : decode b_La_law 529 = .ok (.iadd, 1) := by decide +kernel
theorem d_La_law_530 : decode b_La_law 530 = .ok (.iaload, 1) := by decide +kernel
theorem d_La_law_531 : decode b_La_law 531 = .ok (.invokevirtual 106, 3) := by decide +kernel
theorem d_La_law_534 : decode b_La_law 534 = .ok (.aload_n 2, 1) := by decide +kernel
theorem d_La_law_535 : decode b_La_law 535 = .ok (.invokevirtual 81, 3) := by decide +kernel
theorem d_La_law_538 : decode b_La_law 538 = .ok (.iload 5, 2) := by decide +kernel
theorem d_La_law_540 : decode b_La_law 540 = .ok (.if_icmp .eq 5, 3) := by decide +kernel
theorem d_La_law_543 : decode b_La_law 543 = .ok (.iconst 0, 1) := by decide +kernel
theorem d_La_law_544 : decode b_La_law 544 = .ok (.ireturn, 1) := by decide +kernel
theorem d_La_law_545 : decode b_La_law 545 = .ok (.goto 525, 3) := by decide +kernel
theorem d_La_law_548 : decode b_La_law 548 = .ok (.aload_n 1, 1) := by decide +kernel
theorem d_La_law_549 : decode b_La_law 549 = .ok (.aload_n 0, 1) := by decide +kernel
theorem d_La_law_550 : decode b_La_law 550 = .ok (.iload 4, 2) := by decide +kernel
theorem d_La_law_552 : decode b_La_law 552 = .ok (.iconst 1, 1) := by decide +kernel
theorem d_La_law_553 : decode b_La_law 553 = .ok (.iadd, 1) := by decide +kernel
theorem d_La_law_554 : decode b_La_law 554 = .ok (.iaload, 1) := by decide +kernel
theorem d_La_law_555 : decode b_La_law 555 = .ok (.aload_n 0, 1) := by decide +kernel
theorem d_La_law_556 : decode b_La_law 556 = .ok (.iload 4, 2) := by decide +kernel
theorem d_La_law_558 : decode b_La_law 558 = .ok (.iconst 2, 1) := by decide +kernel
theorem d_La_law_559 : decode b_La_law 559 = .ok (.iadd, 1) := by decide +kernel
theorem d_La_law_560 : decode b_La_law 560 = .ok (.iaload, 1) := by decide +kernel
theorem d_La_law_561 : decode b_La_law 561 = .ok (.aload_n 3, 1) := by decide +kernel
theorem d_La_law_562 : decode b_La_law 562 = .ok (.invokestatic 107, 3) := by decide +kernel
theorem d_La_law_565 : decode b_La_law 565 = .ok (.istore 5, 2) := by decide +kernel
theorem d_La_law_567 : decode b_La_law 567 = .ok (.aload_n 2, 1) := by decide +kernel
theorem d_La_law_568 : decode b_La_law 568 = .ok (.aload_n 0, 1) := by decide +kernel
theorem d_La_law_569 : decode b_La_law 569 = .ok (.iload 4, 2) := by decide +kernel
theorem d_La_law_571 : decode b_La_law 571 = .ok (.iconst 1, 1) := by decide +kernel
theorem d_La_law_572 : decode b_La_law 572 = .ok (.iadd, 1) := by decide +kernel
theorem d_La_law_573 : decode b_La_law 573 = .ok (.iaload, 1) := by decide +kernel
theorem d_La_law_574 : decode b_La_law 574 = .ok (.aload_n 0, 1) := by decide +kernel
theorem d_La_law_575 : decode b_La_law 575 = .ok (.iload 4, 2) := by decide +kernel
theorem d_La_law_577 : decode b_La_law 577 = .ok (.iconst 2, 1) := by decide +kernel
theorem d_La_law_578 : decode b_La_law 578 = .ok (.iadd, 1) := by decide +kernel
theorem d_La_law_579 : decode b_La_law 579 = .ok (.iaload, 1) := by decide +kernel
theorem d_La_law_580 : decode b_La_law 580 = .ok (.invokevirtual 109, 3) := by decide +kernel
theorem d_La_law_583 : decode b_La_law 583 = .ok (.istore 6, 2) := by decide +kernel
theorem d_La_law_585 : decode b_La_law 585 = .ok (.aload_n 2, 1) := by decide +kernel
theorem d_La_law_586 : decode b_La_law 586 = .ok (.invokevirtual 81, 3) := by decide +kernel
theorem d_La_law_589 : decode b_La_law 589 = .ok (.iload 5, 2) := by decide +kernel
theorem d_La_law_591 : decode b_La_law 591 = .ok (.if_icmp .eq 5, 3) := by decide +kernel
theorem d_La_law_594 : decode b_La_law 594 = .ok (.iconst 0, 1) := by decide +kernel
theorem d_La_law_595 : decode b_La_law 595 = .ok (.ireturn, 1) := by decide +kernel
theorem d_La_law_596 : decode b_La_law 596 = .ok (.iload 5, 2) := by decide +kernel
theorem d_La_law_598 : decode b_La_law 598 = .ok (.ifCond .ne 15, 3) := by decide +kernel
theorem d_La_law_601 : decode b_La_law 601 = .ok (.aload_n 3, 1) := by decide +kernel
theorem d_La_law_602 : decode b_La_law 602 = .ok (.iconst 0, 1) := by decide +kernel
theorem d_La_law_603 : decode b_La_law 603 = .ok (.laload, 1) := by decide +kernel
theorem d_La_law_604 : decode b_La_law 604 = .ok (.iload 6, 2) := by decide +kernel
theorem d_La_law_606 : decode b_La_law 606 = .ok (.i2l, 1) := by decide +kernel
theorem d_La_law_607 : decode b_La_law 607 = .ok (.lcmp, 1) := by decide +kernel
theorem d_La_law_608 : decode b_La_law 608 = .ok (.ifCond .eq 5, 3) := by decide +kernel
theorem d_La_law_611 : decode b_La_law 611 = .ok (.iconst 0, 1) := by decide +kernel
theorem d_La_law_612 : decode b_La_law 612 = .ok (.ireturn, 1) := by decide +kernel
theorem d_La_law_613 : decode b_La_law 613 = .ok (.goto 457, 3) := by decide +kernel
theorem d_La_law_616 : decode b_La_law 616 = .ok (.aload_n 1, 1) := by decide +kernel
theorem d_La_law_617 : decode b_La_law 617 = .ok (.aload_n 0, 1) := by decide +kernel
theorem d_La_law_618 : decode b_La_law 618 = .ok (.iload 4, 2) := by decide +kernel
theorem d_La_law_620 : decode b_La_law 620 = .ok (.iconst 1, 1) := by decide +kernel
theorem d_La_law_621 : decode b_La_law 621 = .ok (.iadd, 1) := by decide +kernel
theorem d_La_law_622 : decode b_La_law 622 = .ok (.iaload, 1) := by decide +kernel
theorem d_La_law_623 : decode b_La_law 623 = .ok (.aload_n 0, 1) := by decide +kernel
theorem d_La_law_624 : decode b_La_law 624 = .ok (.iload 4, 2) := by decide +kernel
theorem d_La_law_626 : decode b_La_law 626 = .ok (.iconst 2, 1) := by decide +kernel
theorem d_La_law_627 : decode b_La_law 627 = .ok (.iadd, 1) := by decide +kernel
theorem d_La_law_628 : decode b_La_law 628 = .ok (.iaload, 1) := by decide +kernel
theorem d_La_law_629 : decode b_La_law 629 = .ok (.aload_n 3, 1) := by decide +kernel
theorem d_La_law_630 : decode b_La_law 630 = .ok (.invokestatic 110, 3) := by decide +kernel
theorem d_La_law_633 : decode b_La_law 633 = .ok (.istore 5, 2) := by decide +kernel
theorem d_La_law_635 : decode b_La_law 635 = .ok (.aload_n 2, 1) := by decide +kernel
theorem d_La_law_636 : decode b_La_law 636 = .ok (.aload_n 0, 1) := by decide +kernel
theorem d_La_law_637 : decode b_La_law 637 = .ok (.iload 4, 2) := by decide +kernel
theorem d_La_law_639 : decode b_La_law 639 = .ok (.iconst 1, 1) := by decide +kernel
theorem d_La_law_640 : decode b_La_law 640 = .ok (.iadd, 1) := by decide +kernel
theorem d_La_law_641 : decode b_La_law 641 = .ok (.iaload, 1) := by decide +kernel
theorem d_La_law_642 : decode b_La_law 642 = .ok (.aload_n 0, 1) := by decide +kernel
theorem d_La_law_643 : decode b_La_law 643 = .ok (.iload 4, 2) := by decide +kernel
theorem d_La_law_645 : decode b_La_law 645 = .ok (.iconst 2, 1) := by decide +kernel
theorem d_La_law_646 : decode b_La_law 646 = .ok (.iadd, 1) := by decide +kernel
theorem d_La_law_647 : decode b_La_law 647 = .ok (.iaload, 1) := by decide +kernel
theorem d_La_law_648 : decode b_La_law 648 = .ok (.invokevirtual 112, 3) := by decide +kernel
theorem d_La_law_651 : decode b_La_law 651 = .ok (.istore 6, 2) := by decide +kernel
theorem d_La_law_653 : decode b_La_law 653 = .ok (.aload_n 2, 1) := by decide +kernel
theorem d_La_law_654 : decode b_La_law 654 = .ok (.invokevirtual 81, 3) := by decide +kernel
theorem d_La_law_657 : decode b_La_law 657 = .ok (.iload 5, 2) := by decide +kernel
theorem d_La_law_659 : decode b_La_law 659 = .ok (.if_icmp .eq 5, 3) := by decide +kernel
theorem d_La_law_662 : decode b_La_law 662 = .ok (.iconst 0, 1) := by decide +kernel
theorem d_La_law_663 : decode b_La_law 663 = .ok (.ireturn, 1) := by decide +kernel
theorem d_La_law_664 : decode b_La_law 664 = .ok (.iload 5, 2) := by decide +kernel
theorem d_La_law_666 : decode b_La_law 666 = .ok (.ifCond .ne 15, 3) := by decide +kernel
theorem d_La_law_669 : decode b_La_law 669 = .ok (.aload_n 3, 1) := by decide +kernel
theorem d_La_law_670 : decode b_La_law 670 = .ok (.iconst 0, 1) := by decide +kernel
theorem d_La_law_671 : decode b_La_law 671 = .ok (.laload, 1) := by decide +kernel
theorem d_La_law_672 : decode b_La_law 672 = .ok (.iload 6, 2) := by decide +kernel
theorem d_La_law_674 : decode b_La_law 674 = .ok (.i2l, 1) := by decide +kernel
theorem d_La_law_675 : decode b_La_law 675 = .ok (.lcmp, 1) := by decide +kernel
theorem d_La_law_676 : decode b_La_law 676 = .ok (.ifCond .eq 5, 3) := by decide +kernel
theorem d_La_law_679 : decode b_La_law 679 = .ok (.iconst 0, 1) := by decide +kernel
theorem d_La_law_680 : decode b_La_law 680 = .ok (.ireturn, 1) := by decide +kernel
theorem d_La_law_681 : decode b_La_law 681 = .ok (.goto 389, 3) := by decide +kernel
theorem d_La_law_684 : decode b_La_law 684 = .ok (.aload_n 1, 1) := by decide +kernel
theorem d_La_law_685 : decode b_La_law 685 = .ok (.aload_n 0, 1) := by decide +kernel
theorem d_La_law_686 : decode b_La_law 686 = .ok (.iload 4, 2) := by decide +kernel
theorem d_La_law_688 : decode b_La_law 688 = .ok (.iconst 1, 1) := by decide +kernel
theorem d_La_law_689 : decode b_La_law 689 = .ok (.iadd, 1) := by decide +kernel
theorem d_La_law_690 : decode b_La_law 690 = .ok (.iaload, 1) := by decide +kernel
theorem d_La_law_691 : decode b_La_law 691 = .ok (.aload_n 3, 1) := by decide +kernel
theorem d_La_law_692 : decode b_La_law 692 = .ok (.invokestatic 113, 3) := by decide +kernel
theorem d_La_law_695 : decode b_La_law 695 = .ok (.istore 5, 2) := by decide +kernel
theorem d_La_law_697 : decode b_La_law 697 = .ok (.aload_n 2, 1) := by decide +kernel
theorem d_La_law_698 : decode b_La_law 698 = .ok (.aload_n 0, 1) := by decide +kernel
theorem d_La_law_699 : decode b_La_law 699 = .ok (.iload 4, 2) := by decide +kernel
theorem d_La_law_701 : decode b_La_law 701 = .ok (.iconst 1, 1) := by decide +kernel
theorem d_La_law_702 : decode b_La_law 702 = .ok (.iadd, 1) := by decide +kernel
theorem d_La_law_703 : decode b_La_law 703 = .ok (.iaload, 1) := by decide +kernel
theorem d_La_law_704 : decode b_La_law 704 = .ok (.invokevirtual 116, 3) := by decide +kernel
theorem d_La_law_707 : decode b_La_law 707 = .ok (.istore 6, 2) := by decide +kernel
theorem d_La_law_709 : decode b_La_law 709 = .ok (.aload_n 2, 1) := by decide +kernel
theorem d_La_law_710 : decode b_La_law 710 = .ok (.invokevirtual 81, 3) := by decide +kernel
theorem d_La_law_713 : decode b_La_law 713 = .ok (.iload 5, 2) := by decide +kernel
theorem d_La_law_715 : decode b_La_law 715 = .ok (.if_icmp .eq 5, 3) := by decide +kernel
theorem d_La_law_718 : decode b_La_law 718 = .ok (.iconst 0, 1) := by decide +kernel
theorem d_La_law_719 : decode b_La_law 719 = .ok (.ireturn, 1) := by decide +kernel
theorem d_La_law_720 : decode b_La_law 720 = .ok (.iload 5, 2) := by decide +kernel
theorem d_La_law_722 : decode b_La_law 722 = .ok (.ifCond .ne 15, 3) := by decide +kernel
theorem d_La_law_725 : decode b_La_law 725 = .ok (.aload_n 3, 1) := by decide +kernel
theorem d_La_law_726 : decode b_La_law 726 = .ok (.iconst 0, 1) := by decide +kernel
theorem d_La_law_727 : decode b_La_law 727 = .ok (.laload, 1) := by decide +kernel
theorem d_La_law_728 : decode b_La_law 728 = .ok (.iload 6, 2) := by decide +kernel
theorem d_La_law_730 : decode b_La_law 730 = .ok (.i2l, 1) := by decide +kernel
theorem d_La_law_731 : decode b_La_law 731 = .ok (.lcmp, 1) := by decide +kernel
theorem d_La_law_732 : decode b_La_law 732 = .ok (.ifCond .eq 5, 3) := by decide +kernel
theorem d_La_law_735 : decode b_La_law 735 = .ok (.iconst 0, 1) := by decide +kernel
theorem d_La_law_736 : decode b_La_law 736 = .ok (.ireturn, 1) := by decide +kernel
theorem d_La_law_737 : decode b_La_law 737 = .ok (.goto 333, 3) := by decide +kernel
theorem d_La_law_740 : decode b_La_law 740 = .ok (.aload_n 1, 1) := by decide +kernel
theorem d_La_law_741 : decode b_La_law 741 = .ok (.aload_n 0, 1) := by decide +kernel
theorem d_La_law_742 : decode b_La_law 742 = .ok (.iload 4, 2) := by decide +kernel
theorem d_La_law_744 : decode b_La_law 744 = .ok (.iconst 1, 1) := by decide +kernel
theorem d_La_law_745 : decode b_La_law 745 = .ok (.iadd, 1) := by decide +kernel
theorem d_La_law_746 : decode b_La_law 746 = .ok (.iaload, 1) := by decide +kernel
theorem d_La_law_747 : decode b_La_law 747 = .ok (.aload_n 3, 1) := by decide +kernel
theorem d_La_law_748 : decode b_La_law 748 = .ok (.invokestatic 117, 3) := by decide +kernel
theorem d_La_law_751 : decode b_La_law 751 = .ok (.istore 5, 2) := by decide +kernel
theorem d_La_law_753 : decode b_La_law 753 = .ok (.aload_n 2, 1) := by decide +kernel
theorem d_La_law_754 : decode b_La_law 754 = .ok (.aload_n 0, 1) := by decide +kernel
theorem d_La_law_755 : decode b_La_law 755 = .ok (.iload 4, 2) := by decide +kernel
theorem d_La_law_757 : decode b_La_law 757 = .ok (.iconst 1, 1) := by decide +kernel
theorem d_La_law_758 : decode b_La_law 758 = .ok (.iadd, 1) := by decide +kernel
theorem d_La_law_759 : decode b_La_law 759 = .ok (.iaload, 1) := by decide +kernel
theorem d_La_law_760 : decode b_La_law 760 = .ok (.invokevirtual 119, 3) := by decide +kernel
theorem d_La_law_763 : decode b_La_law 763 = .ok (.istore 6, 2) := by decide +kernel
theorem d_La_law_765 : decode b_La_law 765 = .ok (.aload_n 2, 1) := by decide +kernel
theorem d_La_law_766 : decode b_La_law 766 = .ok (.invokevirtual 81, 3) := by decide +kernel
theorem d_La_law_769 : decode b_La_law 769 = .ok (.iload 5, 2) := by decide +kernel
theorem d_La_law_771 : decode b_La_law 771 = .ok (.if_icmp .eq 5, 3) := by decide +kernel
theorem d_La_law_774 : decode b_La_law 774 = .ok (.iconst 0, 1) := by decide +kernel
theorem d_La_law_775 : decode b_La_law 775 = .ok (.ireturn, 1) := by decide +kernel
theorem d_La_law_776 : decode b_La_law 776 = .ok (.iload 5, 2) := by decide +kernel
theorem d_La_law_778 : decode b_La_law 778 = .ok (.ifCond .ne 15, 3) := by decide +kernel
theorem d_La_law_781 : decode b_La_law 781 = .ok (.aload_n 3, 1) := by decide +kernel
theorem d_La_law_782 : decode b_La_law 782 = .ok (.iconst 0, 1) := by decide +kernel
theorem d_La_law_783 : decode b_La_law 783 = .ok (.laload, 1) := by decide +kernel
theorem d_La_law_784 : decode b_La_law 784 = .ok (.iload 6, 2) := by decide +kernel
theorem d_La_law_786 : decode b_La_law 786 = .ok (.i2l, 1) := by decide +kernel
theorem d_La_law_787 : decode b_La_law 787 = .ok (.lcmp, 1) := by decide +kernel
theorem d_La_law_788 : decode b_La_law 788 = .ok (.ifCond .eq 5, 3) := by decide +kernel
theorem d_La_law_791 : decode b_La_law 791 = .ok (.iconst 0, 1) := by decide +kernel
theorem d_La_law_792 : decode b_La_law 792 = .ok (.ireturn, 1) := by decide +kernel
theorem d_La_law_793 : decode b_La_law 793 = .ok (.goto 277, 3) := by decide +kernel
theorem d_La_law_796 : decode b_La_law 796 = .ok (.aload_n 1, 1) := by decide +kernel
theorem d_La_law_797 : decode b_La_law 797 = .ok (.aload_n 0, 1) := by decide +kernel
theorem d_La_law_798 : decode b_La_law 798 = .ok (.iload 4, 2) := by decide +kernel
theorem d_La_law_800 : decode b_La_law 800 = .ok (.iconst 1, 1) := by decide +kernel
theorem d_La_law_801 : decode b_La_law 801 = .ok (.iadd, 1) := by decide +kernel
theorem d_La_law_802 : decode b_La_law 802 = .ok (.iaload, 1) := by decide +kernel
theorem d_La_law_803 : decode b_La_law 803 = .ok (.aload_n 3, 1) := by decide +kernel
theorem d_La_law_804 : decode b_La_law 804 = .ok (.invokestatic 120, 3) := by decide +kernel
theorem d_La_law_807 : decode b_La_law 807 = .ok (.istore 5, 2) := by decide +kernel
theorem d_La_law_809 : decode b_La_law 809 = .ok (.aload_n 2, 1) := by decide +kernel
theorem d_La_law_810 : decode b_La_law 810 = .ok (.aload_n 0, 1) := by decide +kernel
theorem d_La_law_811 : decode b_La_law 811 = .ok (.iload 4, 2) := by decide +kernel
theorem d_La_law_813 : decode b_La_law 813 = .ok (.iconst 1, 1) := by decide +kernel
theorem d_La_law_814 : decode b_La_law 814 = .ok (.iadd, 1) := by decide +kernel
theorem d_La_law_815 : decode b_La_law 815 = .ok (.iaload, 1) := by decide +kernel
theorem d_La_law_816 : decode b_La_law 816 = .ok (.invokevirtual 122, 3) := by decide +kernel
theorem d_La_law_819 : decode b_La_law 819 = .ok (.istore 6, 2) := by decide +kernel
theorem d_La_law_821 : decode b_La_law 821 = .ok (.aload_n 2, 1) := by decide +kernel
theorem d_La_law_822 : decode b_La_law 822 = .ok (.invokevirtual 81, 3) := by decide +kernel
theorem d_La_law_825 : decode b_La_law 825 = .ok (.iload 5, 2) := by decide +kernel
theorem d_La_law_827 : decode b_La_law 827 = .ok (.if_icmp .eq 5, 3) := by decide +kernel
theorem d_La_law_830 : decode b_La_law 830 = .ok (.iconst 0, 1) := by decide +kernel
theorem d_La_law_831 : decode b_La_law 831 = .ok (.ireturn, 1) := by decide +kernel
theorem d_La_law_832 : decode b_La_law 832 = .ok (.iload 5, 2) := by decide +kernel
theorem d_La_law_834 : decode b_La_law 834 = .ok (.ifCond .ne 15, 3) := by decide +kernel
theorem d_La_law_837 : decode b_La_law 837 = .ok (.aload_n 3, 1) := by decide +kernel
theorem d_La_law_838 : decode b_La_law 838 = .ok (.iconst 0, 1) := by decide +kernel
theorem d_La_law_839 : decode b_La_law 839 = .ok (.laload, 1) := by decide +kernel
theorem d_La_law_840 : decode b_La_law 840 = .ok (.iload 6, 2) := by decide +kernel
theorem d_La_law_842 : decode b_La_law 842 = .ok (.i2l, 1) := by decide +kernel
theorem d_La_law_843 : decode b_La_law 843 = .ok (.lcmp, 1) := by decide +kernel
theorem d_La_law_844 : decode b_La_law 844 = .ok (.ifCond .eq 5, 3) := by decide +kernel
theorem d_La_law_847 : decode b_La_law 847 = .ok (.iconst 0, 1) := by decide +kernel
theorem d_La_law_848 : decode b_La_law 848 = .ok (.ireturn, 1) := by decide +kernel
theorem d_La_law_849 : decode b_La_law 849 = .ok (.goto 221, 3) := by decide +kernel
theorem d_La_law_852 : decode b_La_law 852 = .ok (.aload_n 1, 1) := by decide +kernel
theorem d_La_law_853 : decode b_La_law 853 = .ok (.aload_n 0, 1) := by decide +kernel
theorem d_La_law_854 : decode b_La_law 854 = .ok (.iload 4, 2) := by decide +kernel
theorem d_La_law_856 : decode b_La_law 856 = .ok (.iconst 1, 1) := by decide +kernel
theorem d_La_law_857 : decode b_La_law 857 = .ok (.iadd, 1) := by decide +kernel
theorem d_La_law_858 : decode b_La_law 858 = .ok (.iaload, 1) := by decide +kernel
theorem d_La_law_859 : decode b_La_law 859 = .ok (.invokevirtual 123, 3) := by decide +kernel
theorem d_La_law_862 : decode b_La_law 862 = .ok (.aload_n 2, 1) := by decide +kernel
theorem d_La_law_863 : decode b_La_law 863 = .ok (.aload_n 0, 1) := by decide +kernel
theorem d_La_law_864 : decode b_La_law 864 = .ok (.iload 4, 2) := by decide +kernel
theorem d_La_law_866 : decode b_La_law 866 = .ok (.iconst 1, 1) := by decide +kernel
theorem d_La_law_867 : decode b_La_law 867 = .ok (.iadd, 1) := by decide +kernel
theorem d_La_law_868 : decode b_La_law 868 = .ok (.iaload, 1) := by decide +kernel
theorem d_La_law_869 : decode b_La_law 869 = .ok (.invokevirtual 126, 3) := by decide +kernel
theorem d_La_law_872 : decode b_La_law 872 = .ok (.if_icmp .eq 198, 3) := by decide +kernel
theorem d_La_law_875 : decode b_La_law 875 = .ok (.iconst 0, 1) := by decide +kernel
theorem d_La_law_876 : decode b_La_law 876 = .ok (.ireturn, 1) := by decide +kernel
theorem d_La_law_877 : decode b_La_law 877 = .ok (.aload_n 1, 1) := by decide +kernel
theorem d_La_law_878 : decode b_La_law 878 = .ok (.aload_n 0, 1) := by decide +kernel
theorem d_La_law_879 : decode b_La_law 879 = .ok (.iload 4, 2) := by decide +kernel
theorem d_La_law_881 : decode b_La_law 881 = .ok (.iconst 1, 1) := by decide +kernel
theorem d_La_law_882 : decode b_La_law 882 = .ok (.iadd, 1) := by decide +kernel
theorem d_La_law_883 : decode b_La_law 883 = .ok (.iaload, 1) := by decide +kernel
theorem d_La_law_884 : decode b_La_law 884 = .ok (.invokevirtual 127, 3) := by decide +kernel
theorem d_La_law_887 : decode b_La_law 887 = .ok (.aload_n 2, 1) := by decide +kernel
theorem d_La_law_888 : decode b_La_law 888 = .ok (.aload_n 0, 1) := by decide +kernel
theorem d_La_law_889 : decode b_La_law 889 = .ok (.iload 4, 2) := by decide +kernel
theorem d_La_law_891 : decode b_La_law 891 = .ok (.iconst 1, 1) := by decide +kernel
theorem d_La_law_892 : decode b_La_law 892 = .ok (.iadd, 1) := by decide +kernel
theorem d_La_law_893 : decode b_La_law 893 = .ok (.iaload, 1) := by decide +kernel
theorem d_La_law_894 : decode b_La_law 894 = .ok (.invokevirtual 130, 3) := by decide +kernel
theorem d_La_law_897 : decode b_La_law 897 = .ok (.if_icmp .eq 173, 3) := by decide +kernel
theorem d_La_law_900 : decode b_La_law 900 = .ok (.iconst 0, 1) := by decide +kernel
theorem d_La_law_901 : decode b_La_law 901 = .ok (.ireturn, 1) := by decide +kernel
theorem d_La_law_902 : decode b_La_law 902 = .ok (.aload_n 1, 1) := by decide +kernel
theorem d_La_law_903 : decode b_La_law 903 = .ok (.aload_n 0, 1) := by decide +kernel
theorem d_La_law_904 : decode b_La_law 904 = .ok (.iload 4, 2) := by decide +kernel
theorem d_La_law_906 : decode b_La_law 906 = .ok (.iconst 1, 1) := by decide +kernel
theorem d_La_law_907 : decode b_La_law 907 = .ok (.iadd, 1) := by decide +kernel
theorem d_La_law_908 : decode b_La_law 908 = .ok (.iaload, 1) := by decide +kernel
theorem d_La_law_909 : decode b_La_law 909 = .ok (.aload_n 3, 1) := by decide +kernel
theorem d_La_law_910 : decode b_La_law 910 = .ok (.invokestatic 131, 3) := by decide +kernel
theorem d_La_law_913 : decode b_La_law 913 = .ok (.istore 5, 2) := by decide +kernel
theorem d_La_law_915 : decode b_La_law 915 = .ok (.aload_n 2, 1) := by decide +kernel
theorem d_La_law_916 : decode b_La_law 916 = .ok (.aload_n 0, 1) := by decide +kernel
theorem d_La_law_917 : decode b_La_law 917 = .ok (.iload 4, 2) := by decide +kernel
theorem d_La_law_919 : decode b_La_law 919 = .ok (.iconst 1, 1) := by decide +kernel
theorem d_La_law_920 : decode b_La_law 920 = .ok (.iadd, 1) := by decide +kernel
theorem d_La_law_921 : decode b_La_law 921 = .ok (.iaload, 1) := by decide +kernel
theorem d_La_law_922 : decode b_La_law 922 = .ok (.invokevirtual 133, 3) := by decide +kernel
theorem d_La_law_925 : decode b_La_law 925 = .ok (.istore 6, 2) := by decide +kernel
theorem d_La_law_927 : decode b_La_law 927 = .ok (.aload_n 2, 1) := by decide +kernel
theorem d_La_law_928 : decode b_La_law 928 = .ok (.invokevirtual 81, 3) := by decide +kernel
theorem d_La_law_931 : decode b_La_law 931 = .ok (.iload 5, 2) := by decide +kernel
theorem d_La_law_933 : decode b_La_law 933 = .ok (.if_icmp .eq 5, 3) := by decide +kernel
theorem d_La_law_936 : decode b_La_law 936 = .ok (.iconst 0, 1) := by decide +kernel
theorem d_La_law_937 : decode b_La_law 937 = .ok (.ireturn, 1) := by decide +kernel
theorem d_La_law_938 : decode b_La_law 938 = .ok (.iload 5, 2) := by decide +kernel
theorem d_La_law_940 : decode b_La_law 940 = .ok (.ifCond .ne 15, 3) := by decide +kernel
theorem d_La_law_943 : decode b_La_law 943 = .ok (.aload_n 3, 1) := by decide +kernel
theorem d_La_law_944 : decode b_La_law 944 = .ok (.iconst 0, 1) := by decide +kernel
theorem d_La_law_945 : decode b_La_law 945 = .ok (.laload, 1) := by decide +kernel
theorem d_La_law_946 : decode b_La_law 946 = .ok (.iload 6, 2) := by decide +kernel
theorem d_La_law_948 : decode b_La_law 948 = .ok (.i2l, 1) := by decide +kernel
theorem d_La_law_949 : decode b_La_law 949 = .ok (.lcmp, 1) := by decide +kernel
theorem d_La_law_950 : decode b_La_law 950 = .ok (.ifCond .eq 5, 3) := by decide +kernel
theorem d_La_law_953 : decode b_La_law 953 = .ok (.iconst 0, 1) := by decide +kernel
theorem d_La_law_954 : decode b_La_law 954 = .ok (.ireturn, 1) := by decide +kernel
theorem d_La_law_955 : decode b_La_law 955 = .ok (.goto 115, 3) := by decide +kernel
theorem d_La_law_958 : decode b_La_law 958 = .ok (.aload_n 1, 1) := by decide +kernel
theorem d_La_law_959 : decode b_La_law 959 = .ok (.aload_n 0, 1) := by decide +kernel
theorem d_La_law_960 : decode b_La_law 960 = .ok (.iload 4, 2) := by decide +kernel
theorem d_La_law_962 : decode b_La_law 962 = .ok (.iconst 1, 1) := by decide +kernel
theorem d_La_law_963 : decode b_La_law 963 = .ok (.iadd, 1) := by decide +kernel
theorem d_La_law_964 : decode b_La_law 964 = .ok (.iaload, 1) := by decide +kernel
theorem d_La_law_965 : decode b_La_law 965 = .ok (.aload_n 3, 1) := by decide +kernel
theorem d_La_law_966 : decode b_La_law 966 = .ok (.invokestatic 134, 3) := by decide +kernel
theorem d_La_law_969 : decode b_La_law 969 = .ok (.istore 5, 2) := by decide +kernel
theorem d_La_law_971 : decode b_La_law 971 = .ok (.aload_n 2, 1) := by decide +kernel
theorem d_La_law_972 : decode b_La_law 972 = .ok (.aload_n 0, 1) := by decide +kernel
theorem d_La_law_973 : decode b_La_law 973 = .ok (.iload 4, 2) := by decide +kernel
theorem d_La_law_975 : decode b_La_law 975 = .ok (.iconst 1, 1) := by decide +kernel
theorem d_La_law_976 : decode b_La_law 976 = .ok (.iadd, 1) := by decide +kernel
theorem d_La_law_977 : decode b_La_law 977 = .ok (.iaload, 1) := by decide +kernel
theorem d_La_law_978 : decode b_La_law 978 = .ok (.invokevirtual 136, 3) := by decide +kernel
theorem d_La_law_981 : decode b_La_law 981 = .ok (.istore 6, 2) := by decide +kernel
theorem d_La_law_983 : decode b_La_law 983 = .ok (.aload_n 2, 1) := by decide +kernel
theorem d_La_law_984 : decode b_La_law 984 = .ok (.invokevirtual 81, 3) := by decide +kernel
theorem d_La_law_987 : decode b_La_law 987 = .ok (.iload 5, 2) := by decide +kernel
theorem d_La_law_989 : decode b_La_law 989 = .ok (.if_icmp .eq 5, 3) := by decide +kernel
theorem d_La_law_992 : decode b_La_law 992 = .ok (.iconst 0, 1) := by decide +kernel
theorem d_La_law_993 : decode b_La_law 993 = .ok (.ireturn, 1) := by decide +kernel
theorem d_La_law_994 : decode b_La_law 994 = .ok (.iload 5, 2) := by decide +kernel
theorem d_La_law_996 : decode b_La_law 996 = .ok (.ifCond .ne 15, 3) := by decide +kernel
theorem d_La_law_999 : decode b_La_law 999 = .ok (.aload_n 3, 1) := by decide +kernel
theorem d_La_law_1000 : decode b_La_law 1000 = .ok (.iconst 0, 1) := by decide +kernel
theorem d_La_law_1001 : decode b_La_law 1001 = .ok (.laload, 1) := by decide +kernel
theorem d_La_law_1002 : decode b_La_law 1002 = .ok (.iload 6, 2) := by decide +kernel
theorem d_La_law_1004 : decode b_La_law 1004 = .ok (.i2l, 1) := by decide +kernel
theorem d_La_law_1005 : decode b_La_law 1005 = .ok (.lcmp, 1) := by decide +kernel
theorem d_La_law_1006 : decode b_La_law 1006 = .ok (.ifCond .eq 5, 3) := by decide +kernel
theorem d_La_law_1009 : decode b_La_law 1009 = .ok (.iconst 0, 1) := by decide +kernel
theorem d_La_law_1010 : decode b_La_law 1010 = .ok (.ireturn, 1) := by decide +kernel
theorem d_La_law_1011 : decode b_La_law 1011 = .ok (.goto 59, 3) := by decide +kernel
theorem d_La_law_1014 : decode b_La_law 1014 = .ok (.aload_n 1, 1) := by decide +kernel
theorem d_La_law_1015 : decode b_La_law 1015 = .ok (.aload_n 0, 1) := by decide +kernel
theorem d_La_law_1016 : decode b_La_law 1016 = .ok (.iload 4, 2) := by decide +kernel
theorem d_La_law_1018 : decode b_La_law 1018 = .ok (.iconst 1, 1) := by decide +kernel
theorem d_La_law_1019 : decode b_La_law 1019 = .ok (.iadd, 1) := by decide +kernel
theorem d_La_law_1020 : decode b_La_law 1020 = .ok (.iaload, 1) := by decide +kernel
theorem d_La_law_1021 : decode b_La_law 1021 = .ok (.aload_n 3, 1) := by decide +kernel
theorem d_La_law_1022 : decode b_La_law 1022 = .ok (.invokestatic 137, 3) := by decide +kernel
theorem d_La_law_1025 : decode b_La_law 1025 = .ok (.istore 5, 2) := by decide +kernel
theorem d_La_law_1027 : decode b_La_law 1027 = .ok (.aload_n 2, 1) := by decide +kernel
theorem d_La_law_1028 : decode b_La_law 1028 = .ok (.aload_n 0, 1) := by decide +kernel
theorem d_La_law_1029 : decode b_La_law 1029 = .ok (.iload 4, 2) := by decide +kernel
theorem d_La_law_1031 : decode b_La_law 1031 = .ok (.iconst 1, 1) := by decide +kernel
theorem d_La_law_1032 : decode b_La_law 1032 = .ok (.iadd, 1) := by decide +kernel
theorem d_La_law_1033 : decode b_La_law 1033 = .ok (.iaload, 1) := by decide +kernel
theorem d_La_law_1034 : decode b_La_law 1034 = .ok (.invokevirtual 139, 3) := by decide +kernel
theorem d_La_law_1037 : decode b_La_law 1037 = .ok (.istore 6, 2) := by decide +kernel
theorem d_La_law_1039 : decode b_La_law 1039 = .ok (.aload_n 2, 1) := by decide +kernel
theorem d_La_law_1040 : decode b_La_law 1040 = .ok (.invokevirtual 81, 3) := by decide +kernel
theorem d_La_law_1043 : decode b_La_law 1043 = .ok (.iload 5, 2) := by decide +kernel
theorem d_La_law_1045 : decode b_La_law 1045 = .ok (.if_icmp .eq 5, 3) := by decide +kernel
theorem d_La_law_1048 : decode b_La_law 1048 = .ok (.iconst 0, 1) := by decide +kernel
theorem d_La_law_1049 : decode b_La_law 1049 = .ok (.ireturn, 1) := by decide +kernel
theorem d_La_law_1050 : decode b_La_law 1050 = .ok (.iload 5, 2) := by decide +kernel
theorem d_La_law_1052 : decode b_La_law 1052 = .ok (.ifCond .ne 15, 3) := by decide +kernel
theorem d_La_law_1055 : decode b_La_law 1055 = .ok (.aload_n 3, 1) := by decide +kernel
theorem d_La_law_1056 : decode b_La_law 1056 = .ok (.iconst 0, 1) := by decide +kernel
theorem d_La_law_1057 : decode b_La_law 1057 = .ok (.laload, 1) := by decide +kernel
theorem d_La_law_1058 : decode b_La_law 1058 = .ok (.iload 6, 2) := by decide +kernel
theorem d_La_law_1060 : decode b_La_law 1060 = .ok (.i2l, 1) := by decide +kernel
theorem d_La_law_1061 : decode b_La_law 1061 = .ok (.lcmp, 1) := by decide +kernel
theorem d_La_law_1062 : decode b_La_law 1062 = .ok (.ifCond .eq 5, 3) := by decide +kernel
theorem d_La_law_1065 : decode b_La_law 1065 = .ok (.iconst 0, 1) := by decide +kernel
theorem d_La_law_1066 : decode b_La_law 1066 = .ok (.ireturn, 1) := by decide +kernel
theorem d_La_law_1067 : decode b_La_law 1067 = .ok (.goto 3, 3) := by decide +kernel
theorem d_La_law_1070 : decode b_La_law 1070 = .ok (.iinc 4 5, 3) := by decide +kernel
theorem d_La_law_1073 : decode b_La_law 1073 = .ok (.goto (-1040), 3) := by decide +kernel
theorem d_La_law_1076 : decode b_La_law 1076 = .ok (.iconst 1, 1) := by decide +kernel
theorem d_La_law_1077 : decode b_La_law 1077 = .ok (.ireturn, 1) := by decide +kernel
