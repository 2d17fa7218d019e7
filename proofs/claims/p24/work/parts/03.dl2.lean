theorem dL_turn_721 : decode cL_turn 721 = .ok (.aload_n 0, 1) := by decide +kernel
theorem dL_turn_722 : decode cL_turn 722 = .ok (.bipush 6, 2) := by decide +kernel
theorem dL_turn_724 : decode cL_turn 724 = .ok (.iaload, 1) := by decide +kernel
theorem dL_turn_725 : decode cL_turn 725 = .ok (.irem, 1) := by decide +kernel
theorem dL_turn_726 : decode cL_turn 726 = .ok (.iastore, 1) := by decide +kernel
theorem dL_turn_727 : decode cL_turn 727 = .ok (.aload_n 0, 1) := by decide +kernel
theorem dL_turn_728 : decode cL_turn 728 = .ok (.iconst 5, 1) := by decide +kernel
theorem dL_turn_729 : decode cL_turn 729 = .ok (.dup2, 1) := by decide +kernel
theorem dL_turn_730 : decode cL_turn 730 = .ok (.iaload, 1) := by decide +kernel
theorem dL_turn_731 : decode cL_turn 731 = .ok (.iconst 1, 1) := by decide +kernel
theorem dL_turn_732 : decode cL_turn 732 = .ok (.iadd, 1) := by decide +kernel
theorem dL_turn_733 : decode cL_turn 733 = .ok (.iastore, 1) := by decide +kernel
theorem dL_turn_734 : decode cL_turn 734 = .ok (.return_, 1) := by decide +kernel
theorem dL_paid_0 : decode cL_paid 0 = .ok (.aload_n 0, 1) := by decide +kernel
theorem dL_paid_1 : decode cL_paid 1 = .ok (.iconst 2, 1) := by decide +kernel
theorem dL_paid_2 : decode cL_paid 2 = .ok (.iaload, 1) := by decide +kernel
theorem dL_paid_3 : decode cL_paid 3 = .ok (.aload_n 0, 1) := by decide +kernel
theorem dL_paid_4 : decode cL_paid 4 = .ok (.bipush 8, 2) := by decide +kernel
theorem dL_paid_6 : decode cL_paid 6 = .ok (.iaload, 1) := by decide +kernel
theorem dL_paid_7 : decode cL_paid 7 = .ok (.iadd, 1) := by decide +kernel
theorem dL_paid_8 : decode cL_paid 8 = .ok (.aload_n 0, 1) := by decide +kernel
theorem dL_paid_9 : decode cL_paid 9 = .ok (.bipush 14, 2) := by decide +kernel
theorem dL_paid_11 : decode cL_paid 11 = .ok (.iaload, 1) := by decide +kernel
theorem dL_paid_12 : decode cL_paid 12 = .ok (.iadd, 1) := by decide +kernel
theorem dL_paid_13 : decode cL_paid 13 = .ok (.aload_n 0, 1) := by decide +kernel
theorem dL_paid_14 : decode cL_paid 14 = .ok (.bipush 20, 2) := by decide +kernel
theorem dL_paid_16 : decode cL_paid 16 = .ok (.iaload, 1) := by decide +kernel
theorem dL_paid_17 : decode cL_paid 17 = .ok (.iadd, 1) := by decide +kernel
theorem dL_paid_18 : decode cL_paid 18 = .ok (.ireturn, 1) := by decide +kernel
theorem dL_clear_0 : decode cL_clear 0 = .ok (.iconst 0, 1) := by decide +kernel
theorem dL_clear_1 : decode cL_clear 1 = .ok (.istore 4, 2) := by decide +kernel
theorem dL_clear_3 : decode cL_clear 3 = .ok (.iconst 5, 1) := by decide +kernel
theorem dL_clear_4 : decode cL_clear 4 = .ok (.newarray .int, 2) := by decide +kernel
theorem dL_clear_6 : decode cL_clear 6 = .ok (.astore 5, 2) := by decide +kernel
theorem dL_clear_8 : decode cL_clear 8 = .ok (.iconst 0, 1) := by decide +kernel
theorem dL_clear_9 : decode cL_clear 9 = .ok (.istore 6, 2) := by decide +kernel
theorem dL_clear_11 : decode cL_clear 11 = .ok (.iconst 2, 1) := by decide +kernel
theorem dL_clear_12 : decode cL_clear 12 = .ok (.istore 7, 2) := by decide +kernel
theorem dL_clear_14 : decode cL_clear 14 = .ok (.iload 7, 2) := by decide +kernel
theorem dL_clear_16 : decode cL_clear 16 = .ok (.iconst 5, 1) := by decide +kernel
theorem dL_clear_17 : decode cL_clear 17 = .ok (.if_icmp .ge 177, 3) := by decide +kernel
theorem dL_clear_20 : decode cL_clear 20 = .ok (.iload 6, 2) := by decide +kernel
theorem dL_clear_22 : decode cL_clear 22 = .ok (.ifCond .ne 172, 3) := by decide +kernel
theorem dL_clear_25 : decode cL_clear 25 = .ok (.iconst 0, 1) := by decide +kernel
theorem dL_clear_26 : decode cL_clear 26 = .ok (.istore 8, 2) := by decide +kernel
theorem dL_clear_28 : decode cL_clear 28 = .ok (.iload 8, 2) := by decide +kernel
theorem dL_clear_30 : decode cL_clear 30 = .ok (.bipush 64, 2) := by decide +kernel
theorem dL_clear_32 : decode cL_clear 32 = .ok (.if_icmp .ge 156, 3) := by decide +kernel
theorem dL_clear_35 : decode cL_clear 35 = .ok (.iload 6, 2) := by decide +kernel
theorem dL_clear_37 : decode cL_clear 37 = .ok (.ifCond .ne 151, 3) := by decide +kernel
theorem dL_clear_40 : decode cL_clear 40 = .ok (.aload 5, 2) := by decide +kernel
theorem dL_clear_42 : decode cL_clear 42 = .ok (.iconst 0, 1) := by decide +kernel
theorem dL_clear_43 : decode cL_clear 43 = .ok (.iload_n 0, 1) := by decide +kernel
theorem dL_clear_44 : decode cL_clear 44 = .ok (.iastore, 1) := by decide +kernel
theorem dL_clear_45 : decode cL_clear 45 = .ok (.aload 5, 2) := by decide +kernel
theorem dL_clear_47 : decode cL_clear 47 = .ok (.iconst 1, 1) := by decide +kernel
theorem dL_clear_48 : decode cL_clear 48 = .ok (.iload 8, 2) := by decide +kernel
theorem dL_clear_50 : decode cL_clear 50 = .ok (.iconst 4, 1) := by decide +kernel
theorem dL_clear_51 : decode cL_clear 51 = .ok (.ishr, 1) := by decide +kernel
theorem dL_clear_52 : decode cL_clear 52 = .ok (.iastore, 1) := by decide +kernel
theorem dL_clear_53 : decode cL_clear 53 = .ok (.aload 5, 2) := by decide +kernel
theorem dL_clear_55 : decode cL_clear 55 = .ok (.iconst 2, 1) := by decide +kernel
theorem dL_clear_56 : decode cL_clear 56 = .ok (.iload 8, 2) := by decide +kernel
theorem dL_clear_58 : decode cL_clear 58 = .ok (.iconst 2, 1) := by decide +kernel
theorem dL_clear_59 : decode cL_clear 59 = .ok (.ishr, 1) := by decide +kernel
theorem dL_clear_60 : decode cL_clear 60 = .ok (.iconst 3, 1) := by decide +kernel
theorem dL_clear_61 : decode cL_clear 61 = .ok (.iand, 1) := by decide +kernel
theorem dL_clear_62 : decode cL_clear 62 = .ok (.iastore, 1) := by decide +kernel
theorem dL_clear_63 : decode cL_clear 63 = .ok (.aload 5, 2) := by decide +kernel
theorem dL_clear_65 : decode cL_clear 65 = .ok (.iconst 3, 1) := by decide +kernel
theorem dL_clear_66 : decode cL_clear 66 = .ok (.iload 8, 2) := by decide +kernel
theorem dL_clear_68 : decode cL_clear 68 = .ok (.iconst 3, 1) := by decide +kernel
theorem dL_clear_69 : decode cL_clear 69 = .ok (.iand, 1) := by decide +kernel
theorem dL_clear_70 : decode cL_clear 70 = .ok (.iastore, 1) := by decide +kernel
theorem dL_clear_71 : decode cL_clear 71 = .ok (.aload 5, 2) := by decide +kernel
theorem dL_clear_73 : decode cL_clear 73 = .ok (.iload 7, 2) := by decide +kernel
theorem dL_clear_75 : decode cL_clear 75 = .ok (.iload_n 0, 1) := by decide +kernel
theorem dL_clear_76 : decode cL_clear 76 = .ok (.iastore, 1) := by decide +kernel
theorem dL_clear_77 : decode cL_clear 77 = .ok (.iconst 1, 1) := by decide +kernel
theorem dL_clear_78 : decode cL_clear 78 = .ok (.istore 9, 2) := by decide +kernel
theorem dL_clear_80 : decode cL_clear 80 = .ok (.iconst 0, 1) := by decide +kernel
theorem dL_clear_81 : decode cL_clear 81 = .ok (.istore 10, 2) := by decide +kernel
theorem dL_clear_83 : decode cL_clear 83 = .ok (.iload 10, 2) := by decide +kernel
theorem dL_clear_85 : decode cL_clear 85 = .ok (.iload 7, 2) := by decide +kernel
theorem dL_clear_87 : decode cL_clear 87 = .ok (.if_icmp .ge 82, 3) := by decide +kernel
theorem dL_clear_90 : decode cL_clear 90 = .ok (.iload 9, 2) := by decide +kernel
theorem dL_clear_92 : decode cL_clear 92 = .ok (.ifCond .eq 27, 3) := by decide +kernel
theorem dL_clear_95 : decode cL_clear 95 = .ok (.aload_n 2, 1) := by decide +kernel
theorem dL_clear_96 : decode cL_clear 96 = .ok (.iconst 4, 1) := by decide +kernel
theorem dL_clear_97 : decode cL_clear 97 = .ok (.aload 5, 2) := by decide +kernel
theorem dL_clear_99 : decode cL_clear 99 = .ok (.iload 10, 2) := by decide +kernel
theorem dL_clear_101 : decode cL_clear 101 = .ok (.iaload, 1) := by decide +kernel
theorem dL_clear_102 : decode cL_clear 102 = .ok (.imul, 1) := by decide +kernel
theorem dL_clear_103 : decode cL_clear 103 = .ok (.aload 5, 2) := by decide +kernel
theorem dL_clear_105 : decode cL_clear 105 = .ok (.iload 10, 2) := by decide +kernel
theorem dL_clear_107 : decode cL_clear 107 = .ok (.iconst 1, 1) := by decide +kernel
theorem dL_clear_108 : decode cL_clear 108 = .ok (.iadd, 1) := by decide +kernel
theorem dL_clear_109 : decode cL_clear 109 = .ok (.iaload, 1) := by decide +kernel
theorem dL_clear_110 : decode cL_clear 110 = .ok (.iadd, 1) := by decide +kernel
theorem dL_clear_111 : decode cL_clear 111 = .ok (.iaload, 1) := by decide +kernel
theorem dL_clear_112 : decode cL_clear 112 = .ok (.ifCond .le 7, 3) := by decide +kernel
theorem dL_clear_115 : decode cL_clear 115 = .ok (.iconst 1, 1) := by decide +kernel
theorem dL_clear_116 : decode cL_clear 116 = .ok (.goto 4, 3) := by decide +kernel
theorem dL_clear_119 : decode cL_clear 119 = .ok (.iconst 0, 1) := by decide +kernel
theorem dL_clear_120 : decode cL_clear 120 = .ok (.istore 9, 2) := by decide +kernel
theorem dL_clear_122 : decode cL_clear 122 = .ok (.iconst 0, 1) := by decide +kernel
theorem dL_clear_123 : decode cL_clear 123 = .ok (.istore 11, 2) := by decide +kernel
theorem dL_clear_125 : decode cL_clear 125 = .ok (.iload 11, 2) := by decide +kernel
theorem dL_clear_127 : decode cL_clear 127 = .ok (.iload 10, 2) := by decide +kernel
theorem dL_clear_129 : decode cL_clear 129 = .ok (.if_icmp .ge 34, 3) := by decide +kernel
theorem dL_clear_132 : decode cL_clear 132 = .ok (.iload 9, 2) := by decide +kernel
theorem dL_clear_134 : decode cL_clear 134 = .ok (.ifCond .eq 20, 3) := by decide +kernel
theorem dL_clear_137 : decode cL_clear 137 = .ok (.aload 5, 2) := by decide +kernel
theorem dL_clear_139 : decode cL_clear 139 = .ok (.iload 11, 2) := by decide +kernel
theorem dL_clear_141 : decode cL_clear 141 = .ok (.iaload, 1) := by decide +kernel
theorem dL_clear_142 : decode cL_clear 142 = .ok (.aload 5, 2) := by decide +kernel
theorem dL_clear_144 : decode cL_clear 144 = .ok (.iload 10, 2) := by decide +kernel
theorem dL_clear_146 : decode cL_clear 146 = .ok (.iaload, 1) := by decide +kernel
theorem dL_clear_147 : decode cL_clear 147 = .ok (.if_icmp .eq 7, 3) := by decide +kernel
theorem dL_clear_150 : decode cL_clear 150 = .ok (.iconst 1, 1) := by decide +kernel
theorem dL_clear_151 : decode cL_clear 151 = .ok (.goto 4, 3) := by decide +kernel
theorem dL_clear_154 : decode cL_clear 154 = .ok (.iconst 0, 1) := by decide +kernel
theorem dL_clear_155 : decode cL_clear 155 = .ok (.istore 9, 2) := by decide +kernel
theorem dL_clear_157 : decode cL_clear 157 = .ok (.iinc 11 1, 3) := by decide +kernel
theorem dL_clear_160 : decode cL_clear 160 = .ok (.goto (-35), 3) := by decide +kernel
theorem dL_clear_163 : decode cL_clear 163 = .ok (.iinc 10 1, 3) := by decide +kernel
theorem dL_clear_166 : decode cL_clear 166 = .ok (.goto (-83), 3) := by decide +kernel
theorem dL_clear_169 : decode cL_clear 169 = .ok (.iload 9, 2) := by decide +kernel
theorem dL_clear_171 : decode cL_clear 171 = .ok (.ifCond .eq 8, 3) := by decide +kernel
theorem dL_clear_174 : decode cL_clear 174 = .ok (.iload 7, 2) := by decide +kernel
theorem dL_clear_176 : decode cL_clear 176 = .ok (.goto 4, 3) := by decide +kernel
theorem dL_clear_179 : decode cL_clear 179 = .ok (.iconst 0, 1) := by decide +kernel
theorem dL_clear_180 : decode cL_clear 180 = .ok (.istore 6, 2) := by decide +kernel
theorem dL_clear_182 : decode cL_clear 182 = .ok (.iinc 8 1, 3) := by decide +kernel
theorem dL_clear_185 : decode cL_clear 185 = .ok (.goto (-157), 3) := by decide +kernel
theorem dL_clear_188 : decode cL_clear 188 = .ok (.iinc 7 1, 3) := by decide +kernel
theorem dL_clear_191 : decode cL_clear 191 = .ok (.goto (-177), 3) := by decide +kernel
theorem dL_clear_194 : decode cL_clear 194 = .ok (.iload 6, 2) := by decide +kernel
theorem dL_clear_196 : decode cL_clear 196 = .ok (.ifCond .ne 6, 3) := by decide +kernel
theorem dL_clear_199 : decode cL_clear 199 = .ok (.iload 4, 2) := by decide +kernel
theorem dL_clear_201 : decode cL_clear 201 = .ok (.ireturn, 1) := by decide +kernel
theorem dL_clear_202 : decode cL_clear 202 = .ok (.ldc 28, 2) := by decide +kernel
theorem dL_clear_204 : decode cL_clear 204 = .ok (.istore 7, 2) := by decide +kernel
theorem dL_clear_206 : decode cL_clear 206 = .ok (.iconst 0, 1) := by decide +kernel
theorem dL_clear_207 : decode cL_clear 207 = .ok (.istore 8, 2) := by decide +kernel
theorem dL_clear_209 : decode cL_clear 209 = .ok (.iload 8, 2) := by decide +kernel
theorem dL_clear_211 : decode cL_clear 211 = .ok (.iload 6, 2) := by decide +kernel
theorem dL_clear_213 : decode cL_clear 213 = .ok (.if_icmp .ge 55, 3) := by decide +kernel
theorem dL_clear_216 : decode cL_clear 216 = .ok (.aload_n 2, 1) := by decide +kernel
theorem dL_clear_217 : decode cL_clear 217 = .ok (.iconst 4, 1) := by decide +kernel
theorem dL_clear_218 : decode cL_clear 218 = .ok (.aload 5, 2) := by decide +kernel
theorem dL_clear_220 : decode cL_clear 220 = .ok (.iload 8, 2) := by decide +kernel
theorem dL_clear_222 : decode cL_clear 222 = .ok (.iaload, 1) := by decide +kernel
theorem dL_clear_223 : decode cL_clear 223 = .ok (.imul, 1) := by decide +kernel
theorem dL_clear_224 : decode cL_clear 224 = .ok (.aload 5, 2) := by decide +kernel
theorem dL_clear_226 : decode cL_clear 226 = .ok (.iload 8, 2) := by decide +kernel
theorem dL_clear_228 : decode cL_clear 228 = .ok (.iconst 1, 1) := by decide +kernel
theorem dL_clear_229 : decode cL_clear 229 = .ok (.iadd, 1) := by decide +kernel
theorem dL_clear_230 : decode cL_clear 230 = .ok (.iaload, 1) := by decide +kernel
theorem dL_clear_231 : decode cL_clear 231 = .ok (.iadd, 1) := by decide +kernel
theorem dL_clear_232 : decode cL_clear 232 = .ok (.iaload, 1) := by decide +kernel
theorem dL_clear_233 : decode cL_clear 233 = .ok (.iload 7, 2) := by decide +kernel
theorem dL_clear_235 : decode cL_clear 235 = .ok (.if_icmp .ge 23, 3) := by decide +kernel
theorem dL_clear_238 : decode cL_clear 238 = .ok (.aload_n 2, 1) := by decide +kernel
theorem dL_clear_239 : decode cL_clear 239 = .ok (.iconst 4, 1) := by decide +kernel
theorem dL_clear_240 : decode cL_clear 240 = .ok (.aload 5, 2) := by decide +kernel
theorem dL_clear_242 : decode cL_clear 242 = .ok (.iload 8, 2) := by decide +kernel
theorem dL_clear_244 : decode cL_clear 244 = .ok (.iaload, 1) := by decide +kernel
theorem dL_clear_245 : decode cL_clear 245 = .ok (.imul, 1) := by decide +kernel
theorem dL_clear_246 : decode cL_clear 246 = .ok (.aload 5, 2) := by decide +kernel
theorem dL_clear_248 : decode cL_clear 248 = .ok (.iload 8, 2) := by decide +kernel
theorem dL_clear_250 : decode cL_clear 250 = .ok (.iconst 1, 1) := by decide +kernel
theorem dL_clear_251 : decode cL_clear 251 = .ok (.iadd, 1) := by decide +kernel
theorem dL_clear_252 : decode cL_clear 252 = .ok (.iaload, 1) := by decide +kernel
theorem dL_clear_253 : decode cL_clear 253 = .ok (.iadd, 1) := by decide +kernel
theorem dL_clear_254 : decode cL_clear 254 = .ok (.iaload, 1) := by decide +kernel
theorem dL_clear_255 : decode cL_clear 255 = .ok (.goto 5, 3) := by decide +kernel
theorem dL_clear_258 : decode cL_clear 258 = .ok (.iload 7, 2) := by decide +kernel
theorem dL_clear_260 : decode cL_clear 260 = .ok (.istore 7, 2) := by decide +kernel
theorem dL_clear_262 : decode cL_clear 262 = .ok (.iinc 8 1, 3) := by decide +kernel
theorem dL_clear_265 : decode cL_clear 265 = .ok (.goto (-56), 3) := by decide +kernel
theorem dL_clear_268 : decode cL_clear 268 = .ok (.iconst 0, 1) := by decide +kernel
theorem dL_clear_269 : decode cL_clear 269 = .ok (.istore 8, 2) := by decide +kernel
theorem dL_clear_271 : decode cL_clear 271 = .ok (.iload 8, 2) := by decide +kernel
theorem dL_clear_273 : decode cL_clear 273 = .ok (.iload 6, 2) := by decide +kernel
theorem dL_clear_275 : decode cL_clear 275 = .ok (.if_icmp .ge 54, 3) := by decide +kernel
theorem dL_clear_278 : decode cL_clear 278 = .ok (.iconst 4, 1) := by decide +kernel
theorem dL_clear_279 : decode cL_clear 279 = .ok (.aload 5, 2) := by decide +kernel
theorem dL_clear_281 : decode cL_clear 281 = .ok (.iload 8, 2) := by decide +kernel
theorem dL_clear_283 : decode cL_clear 283 = .ok (.iaload, 1) := by decide +kernel
theorem dL_clear_284 : decode cL_clear 284 = .ok (.imul, 1) := by decide +kernel
theorem dL_clear_285 : decode cL_clear 285 = .ok (.aload 5, 2) := by decide +kernel
theorem dL_clear_287 : decode cL_clear 287 = .ok (.iload 8, 2) := by decide +kernel
theorem dL_clear_289 : decode cL_clear 289 = .ok (.iconst 1, 1) := by decide +kernel
theorem dL_clear_290 : decode cL_clear 290 = .ok (.iadd, 1) := by decide +kernel
theorem dL_clear_291 : decode cL_clear 291 = .ok (.iaload, 1) := by decide +kernel
theorem dL_clear_292 : decode cL_clear 292 = .ok (.iadd, 1) := by decide +kernel
theorem dL_clear_293 : decode cL_clear 293 = .ok (.istore 9, 2) := by decide +kernel
theorem dL_clear_295 : decode cL_clear 295 = .ok (.aload_n 2, 1) := by decide +kernel
theorem dL_clear_296 : decode cL_clear 296 = .ok (.iload 9, 2) := by decide +kernel
theorem dL_clear_298 : decode cL_clear 298 = .ok (.dup2, 1) := by decide +kernel
theorem dL_clear_299 : decode cL_clear 299 = .ok (.iaload, 1) := by decide +kernel
theorem dL_clear_300 : decode cL_clear 300 = .ok (.iload 7, 2) := by decide +kernel
theorem dL_clear_302 : decode cL_clear 302 = .ok (.isub, 1) := by decide +kernel
theorem dL_clear_303 : decode cL_clear 303 = .ok (.iastore, 1) := by decide +kernel
theorem dL_clear_304 : decode cL_clear 304 = .ok (.aload_n 3, 1) := by decide +kernel
theorem dL_clear_305 : decode cL_clear 305 = .ok (.iload 9, 2) := by decide +kernel
theorem dL_clear_307 : decode cL_clear 307 = .ok (.aload_n 2, 1) := by decide +kernel
theorem dL_clear_308 : decode cL_clear 308 = .ok (.iload 9, 2) := by decide +kernel
theorem dL_clear_310 : decode cL_clear 310 = .ok (.iaload, 1) := by decide +kernel
theorem dL_clear_311 : decode cL_clear 311 = .ok (.ifCond .le 10, 3) := by decide +kernel
theorem dL_clear_314 : decode cL_clear 314 = .ok (.aload_n 3, 1) := by decide +kernel
theorem dL_clear_315 : decode cL_clear 315 = .ok (.iload 9, 2) := by decide +kernel
theorem dL_clear_317 : decode cL_clear 317 = .ok (.iaload, 1) := by decide +kernel
theorem dL_clear_318 : decode cL_clear 318 = .ok (.goto 4, 3) := by decide +kernel
theorem dL_clear_321 : decode cL_clear 321 = .ok (.iconst 0, 1) := by decide +kernel
theorem dL_clear_322 : decode cL_clear 322 = .ok (.iastore, 1) := by decide +kernel
theorem dL_clear_323 : decode cL_clear 323 = .ok (.iinc 8 1, 3) := by decide +kernel
theorem dL_clear_326 : decode cL_clear 326 = .ok (.goto (-55), 3) := by decide +kernel
theorem dL_clear_329 : decode cL_clear 329 = .ok (.iload 4, 2) := by decide +kernel
theorem dL_clear_331 : decode cL_clear 331 = .ok (.iload 7, 2) := by decide +kernel
theorem dL_clear_333 : decode cL_clear 333 = .ok (.iadd, 1) := by decide +kernel
theorem dL_clear_334 : decode cL_clear 334 = .ok (.istore 4, 2) := by decide +kernel
theorem dL_clear_336 : decode cL_clear 336 = .ok (.goto (-328), 3) := by decide +kernel
theorem dL_same_0 : decode cL_same 0 = .ok (.iconst 0, 1) := by decide +kernel
theorem dL_same_1 : decode cL_same 1 = .ok (.istore 6, 2) := by decide +kernel
theorem dL_same_3 : decode cL_same 3 = .ok (.iconst 0, 1) := by decide +kernel
theorem dL_same_4 : decode cL_same 4 = .ok (.istore 7, 2) := by decide +kernel
theorem dL_same_6 : decode cL_same 6 = .ok (.iconst 0, 1) := by decide +kernel
theorem dL_same_7 : decode cL_same 7 = .ok (.istore 8, 2) := by decide +kernel
theorem dL_same_9 : decode cL_same 9 = .ok (.iconst 0, 1) := by decide +kernel
theorem dL_same_10 : decode cL_same 10 = .ok (.istore 9, 2) := by decide +kernel
theorem dL_same_12 : decode cL_same 12 = .ok (.iconst 0, 1) := by decide +kernel
theorem dL_same_13 : decode cL_same 13 = .ok (.istore 10, 2) := by decide +kernel
theorem dL_same_15 : decode cL_same 15 = .ok (.iload 10, 2) := by decide +kernel
theorem dL_same_17 : decode cL_same 17 = .ok (.aload_n 1, 1) := by decide +kernel
theorem dL_same_18 : decode cL_same 18 = .ok (.bipush 6, 2) := by decide +kernel
theorem dL_same_20 : decode cL_same 20 = .ok (.iaload, 1) := by decide +kernel
theorem dL_same_21 : decode cL_same 21 = .ok (.if_icmp .ge 336, 3) := by decide +kernel
theorem dL_same_24 : decode cL_same 24 = .ok (.iconst 0, 1) := by decide +kernel
theorem dL_same_25 : decode cL_same 25 = .ok (.istore 11, 2) := by decide +kernel
theorem dL_same_27 : decode cL_same 27 = .ok (.iconst 0, 1) := by decide +kernel
theorem dL_same_28 : decode cL_same 28 = .ok (.istore 12, 2) := by decide +kernel
theorem dL_same_30 : decode cL_same 30 = .ok (.iconst 0, 1) := by decide +kernel
theorem dL_same_31 : decode cL_same 31 = .ok (.istore 13, 2) := by decide +kernel
theorem dL_same_33 : decode cL_same 33 = .ok (.iconst 0, 1) := by decide +kernel
theorem dL_same_34 : decode cL_same 34 = .ok (.istore 14, 2) := by decide +kernel
theorem dL_same_36 : decode cL_same 36 = .ok (.iload 14, 2) := by decide +kernel
theorem dL_same_38 : decode cL_same 38 = .ok (.bipush 20, 2) := by decide +kernel
theorem dL_same_40 : decode cL_same 40 = .ok (.if_icmp .ge 43, 3) := by decide +kernel
theorem dL_same_43 : decode cL_same 43 = .ok (.iload 11, 2) := by decide +kernel
theorem dL_same_45 : decode cL_same 45 = .ok (.aload_n 3, 1) := by decide +kernel
theorem dL_same_46 : decode cL_same 46 = .ok (.iload 14, 2) := by decide +kernel
theorem dL_same_48 : decode cL_same 48 = .ok (.iaload, 1) := by decide +kernel
theorem dL_same_49 : decode cL_same 49 = .ok (.iload 10, 2) := by decide +kernel
theorem dL_same_51 : decode cL_same 51 = .ok (.if_icmp .eq 15, 3) := by decide +kernel
theorem dL_same_54 : decode cL_same 54 = .ok (.aload_n 3, 1) := by decide +kernel
theorem dL_same_55 : decode cL_same 55 = .ok (.bipush 20, 2) := by decide +kernel
theorem dL_same_57 : decode cL_same 57 = .ok (.iload 14, 2) := by decide +kernel
theorem dL_same_59 : decode cL_same 59 = .ok (.iadd, 1) := by decide +kernel
theorem dL_same_60 : decode cL_same 60 = .ok (.iaload, 1) := by decide +kernel
theorem dL_same_61 : decode cL_same 61 = .ok (.iload 10, 2) := by decide +kernel
theorem dL_same_63 : decode cL_same 63 = .ok (.if_icmp .ne 10, 3) := by decide +kernel
theorem dL_same_66 : decode cL_same 66 = .ok (.iconst 1, 1) := by decide +kernel
theorem dL_same_67 : decode cL_same 67 = .ok (.iload 14, 2) := by decide +kernel
theorem dL_same_69 : decode cL_same 69 = .ok (.ishl, 1) := by decide +kernel
theorem dL_same_70 : decode cL_same 70 = .ok (.goto 4, 3) := by decide +kernel
theorem dL_same_73 : decode cL_same 73 = .ok (.iconst 0, 1) := by decide +kernel
theorem dL_same_74 : decode cL_same 74 = .ok (.ior, 1) := by decide +kernel
theorem dL_same_75 : decode cL_same 75 = .ok (.istore 11, 2) := by decide +kernel
theorem dL_same_77 : decode cL_same 77 = .ok (.iinc 14 1, 3) := by decide +kernel
theorem dL_same_80 : decode cL_same 80 = .ok (.goto (-44), 3) := by decide +kernel
theorem dL_same_83 : decode cL_same 83 = .ok (.iconst 0, 1) := by decide +kernel
theorem dL_same_84 : decode cL_same 84 = .ok (.istore 14, 2) := by decide +kernel
theorem dL_same_86 : decode cL_same 86 = .ok (.iload 14, 2) := by decide +kernel
theorem dL_same_88 : decode cL_same 88 = .ok (.aload_n 1, 1) := by decide +kernel
theorem dL_same_89 : decode cL_same 89 = .ok (.bipush 6, 2) := by decide +kernel
theorem dL_same_91 : decode cL_same 91 = .ok (.iaload, 1) := by decide +kernel
theorem dL_same_92 : decode cL_same 92 = .ok (.if_icmp .ge 125, 3) := by decide +kernel
theorem dL_same_95 : decode cL_same 95 = .ok (.aload 4, 2) := by decide +kernel
theorem dL_same_97 : decode cL_same 97 = .ok (.iconst 4, 1) := by decide +kernel
theorem dL_same_98 : decode cL_same 98 = .ok (.iload 10, 2) := by decide +kernel
theorem dL_same_100 : decode cL_same 100 = .ok (.imul, 1) := by decide +kernel
theorem dL_same_101 : decode cL_same 101 = .ok (.iload 14, 2) := by decide +kernel
theorem dL_same_103 : decode cL_same 103 = .ok (.iadd, 1) := by decide +kernel
theorem dL_same_104 : decode cL_same 104 = .ok (.iaload, 1) := by decide +kernel
theorem dL_same_105 : decode cL_same 105 = .ok (.istore 15, 2) := by decide +kernel
theorem dL_same_107 : decode cL_same 107 = .ok (.iload 12, 2) := by decide +kernel
theorem dL_same_109 : decode cL_same 109 = .ok (.iload 15, 2) := by decide +kernel
theorem dL_same_111 : decode cL_same 111 = .ok (.iadd, 1) := by decide +kernel
theorem dL_same_112 : decode cL_same 112 = .ok (.istore 12, 2) := by decide +kernel
theorem dL_same_114 : decode cL_same 114 = .ok (.iload 13, 2) := by decide +kernel
theorem dL_same_116 : decode cL_same 116 = .ok (.aload 4, 2) := by decide +kernel
theorem dL_same_118 : decode cL_same 118 = .ok (.iconst 4, 1) := by decide +kernel
theorem dL_same_119 : decode cL_same 119 = .ok (.iload 14, 2) := by decide +kernel
theorem dL_same_121 : decode cL_same 121 = .ok (.imul, 1) := by decide +kernel
theorem dL_same_122 : decode cL_same 122 = .ok (.iload 10, 2) := by decide +kernel
theorem dL_same_124 : decode cL_same 124 = .ok (.iadd, 1) := by decide +kernel
theorem dL_same_125 : decode cL_same 125 = .ok (.iaload, 1) := by decide +kernel
theorem dL_same_126 : decode cL_same 126 = .ok (.iadd, 1) := by decide +kernel
theorem dL_same_127 : decode cL_same 127 = .ok (.istore 13, 2) := by decide +kernel
theorem dL_same_129 : decode cL_same 129 = .ok (.iload 7, 2) := by decide +kernel
theorem dL_same_131 : decode cL_same 131 = .ok (.iload 15, 2) := by decide +kernel
theorem dL_same_133 : decode cL_same 133 = .ok (.ifCond .le 7, 3) := by decide +kernel
theorem dL_same_136 : decode cL_same 136 = .ok (.iconst 1, 1) := by decide +kernel
theorem dL_same_137 : decode cL_same 137 = .ok (.goto 4, 3) := by decide +kernel
theorem dL_same_140 : decode cL_same 140 = .ok (.iconst 0, 1) := by decide +kernel
theorem dL_same_141 : decode cL_same 141 = .ok (.iadd, 1) := by decide +kernel
theorem dL_same_142 : decode cL_same 142 = .ok (.istore 7, 2) := by decide +kernel
theorem dL_same_144 : decode cL_same 144 = .ok (.aload_n 0, 1) := by decide +kernel
theorem dL_same_145 : decode cL_same 145 = .ok (.iload 10, 2) := by decide +kernel
theorem dL_same_147 : decode cL_same 147 = .ok (.iload 14, 2) := by decide +kernel
theorem dL_same_149 : decode cL_same 149 = .ok (.iconst 0, 1) := by decide +kernel
theorem dL_same_150 : decode cL_same 150 = .ok (.invokevirtual 29, 3) := by decide +kernel
theorem dL_same_153 : decode cL_same 153 = .ok (.iload 14, 2) := by decide +kernel
theorem dL_same_155 : decode cL_same 155 = .ok (.iload 10, 2) := by decide +kernel
theorem dL_same_157 : decode cL_same 157 = .ok (.if_icmp .ne 8, 3) := by decide +kernel
theorem dL_same_160 : decode cL_same 160 = .ok (.bipush (-2), 2) := by decide +kernel
theorem dL_same_162 : decode cL_same 162 = .ok (.goto 5, 3) := by decide +kernel
theorem dL_same_165 : decode cL_same 165 = .ok (.iload 15, 2) := by decide +kernel
theorem dL_same_167 : decode cL_same 167 = .ok (.if_icmp .ne 42, 3) := by decide +kernel
theorem dL_same_170 : decode cL_same 170 = .ok (.iload 14, 2) := by decide +kernel
theorem dL_same_172 : decode cL_same 172 = .ok (.iload 10, 2) := by decide +kernel
theorem dL_same_174 : decode cL_same 174 = .ok (.if_icmp .eq 37, 3) := by decide +kernel
theorem dL_same_177 : decode cL_same 177 = .ok (.aload_n 0, 1) := by decide +kernel
theorem dL_same_178 : decode cL_same 178 = .ok (.iload 10, 2) := by decide +kernel
theorem dL_same_180 : decode cL_same 180 = .ok (.iload 14, 2) := by decide +kernel
theorem dL_same_182 : decode cL_same 182 = .ok (.iconst 1, 1) := by decide +kernel
theorem dL_same_183 : decode cL_same 183 = .ok (.invokevirtual 29, 3) := by decide +kernel
theorem dL_same_186 : decode cL_same 186 = .ok (.iload 15, 2) := by decide +kernel
theorem dL_same_188 : decode cL_same 188 = .ok (.ifCond .le 16, 3) := by decide +kernel
theorem dL_same_191 : decode cL_same 191 = .ok (.aload 5, 2) := by decide +kernel
theorem dL_same_193 : decode cL_same 193 = .ok (.iconst 4, 1) := by decide +kernel
theorem dL_same_194 : decode cL_same 194 = .ok (.iload 10, 2) := by decide +kernel
theorem dL_same_196 : decode cL_same 196 = .ok (.imul, 1) := by decide +kernel
theorem dL_same_197 : decode cL_same 197 = .ok (.iload 14, 2) := by decide +kernel
theorem dL_same_199 : decode cL_same 199 = .ok (.iadd, 1) := by decide +kernel
theorem dL_same_200 : decode cL_same 200 = .ok (.iaload, 1) := by decide +kernel
theorem dL_same_201 : decode cL_same 201 = .ok (.goto 5, 3) := by decide +kernel
theorem dL_same_204 : decode cL_same 204 = .ok (.bipush (-6), 2) := by decide +kernel
theorem dL_same_206 : decode cL_same 206 = .ok (.if_icmp .eq 5, 3) := by decide +kernel
theorem dL_same_209 : decode cL_same 209 = .ok (.iconst 0, 1) := by decide +kernel
theorem dL_same_210 : decode cL_same 210 = .ok (.ireturn, 1) := by decide +kernel
theorem dL_same_211 : decode cL_same 211 = .ok (.iinc 14 1, 3) := by decide +kernel
theorem dL_same_214 : decode cL_same 214 = .ok (.goto (-128), 3) := by decide +kernel
theorem dL_same_217 : decode cL_same 217 = .ok (.aload_n 0, 1) := by decide +kernel
theorem dL_same_218 : decode cL_same 218 = .ok (.iload 10, 2) := by decide +kernel
theorem dL_same_220 : decode cL_same 220 = .ok (.iconst 0, 1) := by decide +kernel
theorem dL_same_221 : decode cL_same 221 = .ok (.invokevirtual 35, 3) := by decide +kernel
theorem dL_same_224 : decode cL_same 224 = .ok (.aload_n 2, 1) := by decide +kernel
theorem dL_same_225 : decode cL_same 225 = .ok (.bipush 6, 2) := by decide +kernel
theorem dL_same_227 : decode cL_same 227 = .ok (.iload 10, 2) := by decide +kernel
theorem dL_same_229 : decode cL_same 229 = .ok (.imul, 1) := by decide +kernel
theorem dL_same_230 : decode cL_same 230 = .ok (.iaload, 1) := by decide +kernel
theorem dL_same_231 : decode cL_same 231 = .ok (.if_icmp .ne 58, 3) := by decide +kernel
theorem dL_same_234 : decode cL_same 234 = .ok (.aload_n 0, 1) := by decide +kernel
theorem dL_same_235 : decode cL_same 235 = .ok (.iload 10, 2) := by decide +kernel
theorem dL_same_237 : decode cL_same 237 = .ok (.iconst 1, 1) := by decide +kernel
theorem dL_same_238 : decode cL_same 238 = .ok (.invokevirtual 35, 3) := by decide +kernel
theorem dL_same_241 : decode cL_same 241 = .ok (.aload_n 2, 1) := by decide +kernel
theorem dL_same_242 : decode cL_same 242 = .ok (.bipush 6, 2) := by decide +kernel
theorem dL_same_244 : decode cL_same 244 = .ok (.iload 10, 2) := by decide +kernel
theorem dL_same_246 : decode cL_same 246 = .ok (.imul, 1) := by decide +kernel
theorem dL_same_247 : decode cL_same 247 = .ok (.iconst 1, 1) := by decide +kernel
theorem dL_same_248 : decode cL_same 248 = .ok (.iadd, 1) := by decide +kernel
theorem dL_same_249 : decode cL_same 249 = .ok (.iaload, 1) := by decide +kernel
theorem dL_same_250 : decode cL_same 250 = .ok (.if_icmp .ne 39, 3) := by decide +kernel
theorem dL_same_253 : decode cL_same 253 = .ok (.aload_n 0, 1) := by decide +kernel
theorem dL_same_254 : decode cL_same 254 = .ok (.iload 10, 2) := by decide +kernel
theorem dL_same_256 : decode cL_same 256 = .ok (.iconst 2, 1) := by decide +kernel
theorem dL_same_257 : decode cL_same 257 = .ok (.invokevirtual 35, 3) := by decide +kernel
theorem dL_same_260 : decode cL_same 260 = .ok (.iload 11, 2) := by decide +kernel
theorem dL_same_262 : decode cL_same 262 = .ok (.if_icmp .ne 27, 3) := by decide +kernel
theorem dL_same_265 : decode cL_same 265 = .ok (.aload_n 0, 1) := by decide +kernel
theorem dL_same_266 : decode cL_same 266 = .ok (.iload 10, 2) := by decide +kernel
theorem dL_same_268 : decode cL_same 268 = .ok (.iconst 3, 1) := by decide +kernel
theorem dL_same_269 : decode cL_same 269 = .ok (.invokevirtual 35, 3) := by decide +kernel
theorem dL_same_272 : decode cL_same 272 = .ok (.iload 12, 2) := by decide +kernel
theorem dL_same_274 : decode cL_same 274 = .ok (.if_icmp .ne 15, 3) := by decide +kernel
theorem dL_same_277 : decode cL_same 277 = .ok (.aload_n 0, 1) := by decide +kernel
theorem dL_same_278 : decode cL_same 278 = .ok (.iload 10, 2) := by decide +kernel
theorem dL_same_280 : decode cL_same 280 = .ok (.iconst 4, 1) := by decide +kernel
theorem dL_same_281 : decode cL_same 281 = .ok (.invokevirtual 35, 3) := by decide +kernel
theorem dL_same_284 : decode cL_same 284 = .ok (.iload 13, 2) := by decide +kernel
theorem dL_same_286 : decode cL_same 286 = .ok (.if_icmp .eq 5, 3) := by decide +kernel
theorem dL_same_289 : decode cL_same 289 = .ok (.iconst 0, 1) := by decide +kernel
theorem dL_same_290 : decode cL_same 290 = .ok (.ireturn, 1) := by decide +kernel
theorem dL_same_291 : decode cL_same 291 = .ok (.iconst 2, 1) := by decide +kernel
theorem dL_same_292 : decode cL_same 292 = .ok (.istore 14, 2) := by decide +kernel
theorem dL_same_294 : decode cL_same 294 = .ok (.iload 14, 2) := by decide +kernel
theorem dL_same_296 : decode cL_same 296 = .ok (.bipush 6, 2) := by decide +kernel
theorem dL_same_298 : decode cL_same 298 = .ok (.if_icmp .ge 34, 3) := by decide +kernel
theorem dL_same_301 : decode cL_same 301 = .ok (.aload_n 0, 1) := by decide +kernel
theorem dL_same_302 : decode cL_same 302 = .ok (.iload 10, 2) := by decide +kernel
theorem dL_same_304 : decode cL_same 304 = .ok (.iconst 3, 1) := by decide +kernel
theorem dL_same_305 : decode cL_same 305 = .ok (.iload 14, 2) := by decide +kernel
theorem dL_same_307 : decode cL_same 307 = .ok (.iadd, 1) := by decide +kernel
theorem dL_same_308 : decode cL_same 308 = .ok (.invokevirtual 35, 3) := by decide +kernel
theorem dL_same_311 : decode cL_same 311 = .ok (.aload_n 2, 1) := by decide +kernel
theorem dL_same_312 : decode cL_same 312 = .ok (.bipush 6, 2) := by decide +kernel
theorem dL_same_314 : decode cL_same 314 = .ok (.iload 10, 2) := by decide +kernel
theorem dL_same_316 : decode cL_same 316 = .ok (.imul, 1) := by decide +kernel
theorem dL_same_317 : decode cL_same 317 = .ok (.iload 14, 2) := by decide +kernel
theorem dL_same_319 : decode cL_same 319 = .ok (.iadd, 1) := by decide +kernel
theorem dL_same_320 : decode cL_same 320 = .ok (.iaload, 1) := by decide +kernel
theorem dL_same_321 : decode cL_same 321 = .ok (.if_icmp .eq 5, 3) := by decide +kernel
theorem dL_same_324 : decode cL_same 324 = .ok (.iconst 0, 1) := by decide +kernel
theorem dL_same_325 : decode cL_same 325 = .ok (.ireturn, 1) := by decide +kernel
theorem dL_same_326 : decode cL_same 326 = .ok (.iinc 14 1, 3) := by decide +kernel
theorem dL_same_329 : decode cL_same 329 = .ok (.goto (-35), 3) := by decide +kernel
theorem dL_same_332 : decode cL_same 332 = .ok (.iload 6, 2) := by decide +kernel
theorem dL_same_334 : decode cL_same 334 = .ok (.aload_n 2, 1) := by decide +kernel
theorem dL_same_335 : decode cL_same 335 = .ok (.bipush 6, 2) := by decide +kernel
theorem dL_same_337 : decode cL_same 337 = .ok (.iload 10, 2) := by decide +kernel
theorem dL_same_339 : decode cL_same 339 = .ok (.imul, 1) := by decide +kernel
theorem dL_same_340 : decode cL_same 340 = .ok (.iaload, 1) := by decide +kernel
theorem dL_same_341 : decode cL_same 341 = .ok (.iadd, 1) := by decide +kernel
theorem dL_same_342 : decode cL_same 342 = .ok (.istore 6, 2) := by decide +kernel
theorem dL_same_344 : decode cL_same 344 = .ok (.iload 8, 2) := by decide +kernel
theorem dL_same_346 : decode cL_same 346 = .ok (.iload 12, 2) := by decide +kernel
theorem dL_same_348 : decode cL_same 348 = .ok (.iadd, 1) := by decide +kernel
theorem dL_same_349 : decode cL_same 349 = .ok (.istore 8, 2) := by decide +kernel
theorem dL_same_351 : decode cL_same 351 = .ok (.iinc 10 1, 3) := by decide +kernel
theorem dL_same_354 : decode cL_same 354 = .ok (.goto (-339), 3) := by decide +kernel
theorem dL_same_357 : decode cL_same 357 = .ok (.iconst 0, 1) := by decide +kernel
theorem dL_same_358 : decode cL_same 358 = .ok (.istore 10, 2) := by decide +kernel
theorem dL_same_360 : decode cL_same 360 = .ok (.iload 10, 2) := by decide +kernel
theorem dL_same_362 : decode cL_same 362 = .ok (.bipush 20, 2) := by decide +kernel
theorem dL_same_364 : decode cL_same 364 = .ok (.if_icmp .ge 238, 3) := by decide +kernel
theorem dL_same_367 : decode cL_same 367 = .ok (.iconst 0, 1) := by decide +kernel
theorem dL_same_368 : decode cL_same 368 = .ok (.istore 11, 2) := by decide +kernel
theorem dL_same_370 : decode cL_same 370 = .ok (.aload_n 0, 1) := by decide +kernel
theorem dL_same_371 : decode cL_same 371 = .ok (.iload 9, 2) := by decide +kernel
theorem dL_same_373 : decode cL_same 373 = .ok (.iinc 9 1, 3) := by decide +kernel
theorem dL_same_376 : decode cL_same 376 = .ok (.invokevirtual 39, 3) := by decide +kernel
theorem dL_same_379 : decode cL_same 379 = .ok (.iload 10, 2) := by decide +kernel
theorem dL_same_381 : decode cL_same 381 = .ok (.bipush 10, 2) := by decide +kernel
theorem dL_same_383 : decode cL_same 383 = .ok (.irem, 1) := by decide +kernel
theorem dL_same_384 : decode cL_same 384 = .ok (.ifCond .ne 8, 3) := by decide +kernel
theorem dL_same_387 : decode cL_same 387 = .ok (.bipush 111, 2) := by decide +kernel
theorem dL_same_389 : decode cL_same 389 = .ok (.goto 19, 3) := by decide +kernel
theorem dL_same_392 : decode cL_same 392 = .ok (.iload 10, 2) := by decide +kernel
theorem dL_same_394 : decode cL_same 394 = .ok (.bipush 10, 2) := by decide +kernel
theorem dL_same_396 : decode cL_same 396 = .ok (.irem, 1) := by decide +kernel
theorem dL_same_397 : decode cL_same 397 = .ok (.iconst 5, 1) := by decide +kernel
theorem dL_same_398 : decode cL_same 398 = .ok (.if_icmp .ne 8, 3) := by decide +kernel
theorem dL_same_401 : decode cL_same 401 = .ok (.bipush 61, 2) := by decide +kernel
theorem dL_same_403 : decode cL_same 403 = .ok (.goto 5, 3) := by decide +kernel
theorem dL_same_406 : decode cL_same 406 = .ok (.bipush 45, 2) := by decide +kernel
theorem dL_same_408 : decode cL_same 408 = .ok (.if_icmp .ne 61, 3) := by decide +kernel
theorem dL_same_411 : decode cL_same 411 = .ok (.aload_n 3, 1) := by decide +kernel
theorem dL_same_412 : decode cL_same 412 = .ok (.iload 10, 2) := by decide +kernel
theorem dL_same_414 : decode cL_same 414 = .ok (.iaload, 1) := by decide +kernel
theorem dL_same_415 : decode cL_same 415 = .ok (.ifCond .lt 22, 3) := by decide +kernel
theorem dL_same_418 : decode cL_same 418 = .ok (.aload_n 0, 1) := by decide +kernel
theorem dL_same_419 : decode cL_same 419 = .ok (.iload 9, 2) := by decide +kernel
theorem dL_same_421 : decode cL_same 421 = .ok (.iinc 9 1, 3) := by decide +kernel
theorem dL_same_424 : decode cL_same 424 = .ok (.invokevirtual 39, 3) := by decide +kernel
theorem dL_same_427 : decode cL_same 427 = .ok (.bipush 97, 2) := by decide +kernel
theorem dL_same_429 : decode cL_same 429 = .ok (.aload_n 3, 1) := by decide +kernel
theorem dL_same_430 : decode cL_same 430 = .ok (.iload 10, 2) := by decide +kernel
theorem dL_same_432 : decode cL_same 432 = .ok (.iaload, 1) := by decide +kernel
theorem dL_same_433 : decode cL_same 433 = .ok (.iadd, 1) := by decide +kernel
theorem dL_same_434 : decode cL_same 434 = .ok (.if_icmp .ne 35, 3) := by decide +kernel
theorem dL_same_437 : decode cL_same 437 = .ok (.aload_n 3, 1) := by decide +kernel
theorem dL_same_438 : decode cL_same 438 = .ok (.bipush 20, 2) := by decide +kernel
theorem dL_same_440 : decode cL_same 440 = .ok (.iload 10, 2) := by decide +kernel
theorem dL_same_442 : decode cL_same 442 = .ok (.iadd, 1) := by decide +kernel
theorem dL_same_443 : decode cL_same 443 = .ok (.iaload, 1) := by decide +kernel
theorem dL_same_444 : decode cL_same 444 = .ok (.ifCond .lt 27, 3) := by decide +kernel
theorem dL_same_447 : decode cL_same 447 = .ok (.aload_n 0, 1) := by decide +kernel
theorem dL_same_448 : decode cL_same 448 = .ok (.iload 9, 2) := by decide +kernel
theorem dL_same_450 : decode cL_same 450 = .ok (.iinc 9 1, 3) := by decide +kernel
theorem dL_same_453 : decode cL_same 453 = .ok (.invokevirtual 39, 3) := by decide +kernel
theorem dL_same_456 : decode cL_same 456 = .ok (.bipush 97, 2) := by decide +kernel
theorem dL_same_458 : decode cL_same 458 = .ok (.aload_n 3, 1) := by decide +kernel
theorem dL_same_459 : decode cL_same 459 = .ok (.bipush 20, 2) := by decide +kernel
theorem dL_same_461 : decode cL_same 461 = .ok (.iload 10, 2) := by decide +kernel
theorem dL_same_463 : decode cL_same 463 = .ok (.iadd, 1) := by decide +kernel
theorem dL_same_464 : decode cL_same 464 = .ok (.iaload, 1) := by decide +kernel
theorem dL_same_465 : decode cL_same 465 = .ok (.iadd, 1) := by decide +kernel
theorem dL_same_466 : decode cL_same 466 = .ok (.if_icmp .eq 5, 3) := by decide +kernel
theorem dL_same_469 : decode cL_same 469 = .ok (.iconst 0, 1) := by decide +kernel
theorem dL_same_470 : decode cL_same 470 = .ok (.ireturn, 1) := by decide +kernel
theorem dL_same_471 : decode cL_same 471 = .ok (.iconst 0, 1) := by decide +kernel
theorem dL_same_472 : decode cL_same 472 = .ok (.istore 12, 2) := by decide +kernel
theorem dL_same_474 : decode cL_same 474 = .ok (.iload 12, 2) := by decide +kernel
theorem dL_same_476 : decode cL_same 476 = .ok (.aload_n 1, 1) := by decide +kernel
theorem dL_same_477 : decode cL_same 477 = .ok (.bipush 6, 2) := by decide +kernel
theorem dL_same_479 : decode cL_same 479 = .ok (.iaload, 1) := by decide +kernel
theorem dL_same_480 : decode cL_same 480 = .ok (.if_icmp .ge 54, 3) := by decide +kernel
theorem dL_same_483 : decode cL_same 483 = .ok (.aload_n 2, 1) := by decide +kernel
theorem dL_same_484 : decode cL_same 484 = .ok (.bipush 6, 2) := by decide +kernel
theorem dL_same_486 : decode cL_same 486 = .ok (.iload 12, 2) := by decide +kernel
theorem dL_same_488 : decode cL_same 488 = .ok (.imul, 1) := by decide +kernel
theorem dL_same_489 : decode cL_same 489 = .ok (.iconst 1, 1) := by decide +kernel
theorem dL_same_490 : decode cL_same 490 = .ok (.iadd, 1) := by decide +kernel
theorem dL_same_491 : decode cL_same 491 = .ok (.iaload, 1) := by decide +kernel
theorem dL_same_492 : decode cL_same 492 = .ok (.iload 10, 2) := by decide +kernel
theorem dL_same_494 : decode cL_same 494 = .ok (.if_icmp .eq 6, 3) := by decide +kernel
theorem dL_same_497 : decode cL_same 497 = .ok (.goto 31, 3) := by decide +kernel
theorem dL_same_500 : decode cL_same 500 = .ok (.iload 11, 2) := by decide +kernel
theorem dL_same_502 : decode cL_same 502 = .ok (.iconst 1, 1) := by decide +kernel
theorem dL_same_503 : decode cL_same 503 = .ok (.iload 12, 2) := by decide +kernel
theorem dL_same_505 : decode cL_same 505 = .ok (.ishl, 1) := by decide +kernel
theorem dL_same_506 : decode cL_same 506 = .ok (.ior, 1) := by decide +kernel
theorem dL_same_507 : decode cL_same 507 = .ok (.istore 11, 2) := by decide +kernel
theorem dL_same_509 : decode cL_same 509 = .ok (.aload_n 0, 1) := by decide +kernel
theorem dL_same_510 : decode cL_same 510 = .ok (.iload 9, 2) := by decide +kernel
theorem dL_same_512 : decode cL_same 512 = .ok (.iinc 9 1, 3) := by decide +kernel
theorem dL_same_515 : decode cL_same 515 = .ok (.invokevirtual 39, 3) := by decide +kernel
theorem dL_same_518 : decode cL_same 518 = .ok (.bipush 65, 2) := by decide +kernel
theorem dL_same_520 : decode cL_same 520 = .ok (.iload 12, 2) := by decide +kernel
theorem dL_same_522 : decode cL_same 522 = .ok (.iadd, 1) := by decide +kernel
theorem dL_same_523 : decode cL_same 523 = .ok (.if_icmp .eq 5, 3) := by decide +kernel
theorem dL_same_526 : decode cL_same 526 = .ok (.iconst 0, 1) := by decide +kernel
theorem dL_same_527 : decode cL_same 527 = .ok (.ireturn, 1) := by decide +kernel
theorem dL_same_528 : decode cL_same 528 = .ok (.iinc 12 1, 3) := by decide +kernel
theorem dL_same_531 : decode cL_same 531 = .ok (.goto (-57), 3) := by decide +kernel
theorem dL_same_534 : decode cL_same 534 = .ok (.aload_n 0, 1) := by decide +kernel
theorem dL_same_535 : decode cL_same 535 = .ok (.iload 10, 2) := by decide +kernel
theorem dL_same_537 : decode cL_same 537 = .ok (.iconst 1, 1) := by decide +kernel
theorem dL_same_538 : decode cL_same 538 = .ok (.invokevirtual 43, 3) := by decide +kernel
theorem dL_same_541 : decode cL_same 541 = .ok (.aload_n 3, 1) := by decide +kernel
theorem dL_same_542 : decode cL_same 542 = .ok (.iload 10, 2) := by decide +kernel
theorem dL_same_544 : decode cL_same 544 = .ok (.iaload, 1) := by decide +kernel
theorem dL_same_545 : decode cL_same 545 = .ok (.if_icmp .ne 49, 3) := by decide +kernel
theorem dL_same_548 : decode cL_same 548 = .ok (.aload_n 0, 1) := by decide +kernel
theorem dL_same_549 : decode cL_same 549 = .ok (.iload 10, 2) := by decide +kernel
theorem dL_same_551 : decode cL_same 551 = .ok (.iconst 2, 1) := by decide +kernel
theorem dL_same_552 : decode cL_same 552 = .ok (.invokevirtual 43, 3) := by decide +kernel
theorem dL_same_555 : decode cL_same 555 = .ok (.aload_n 3, 1) := by decide +kernel
theorem dL_same_556 : decode cL_same 556 = .ok (.bipush 20, 2) := by decide +kernel
theorem dL_same_558 : decode cL_same 558 = .ok (.iload 10, 2) := by decide +kernel
theorem dL_same_560 : decode cL_same 560 = .ok (.iadd, 1) := by decide +kernel
theorem dL_same_561 : decode cL_same 561 = .ok (.iaload, 1) := by decide +kernel
theorem dL_same_562 : decode cL_same 562 = .ok (.if_icmp .ne 32, 3) := by decide +kernel
theorem dL_same_565 : decode cL_same 565 = .ok (.aload_n 0, 1) := by decide +kernel
theorem dL_same_566 : decode cL_same 566 = .ok (.iload 10, 2) := by decide +kernel
theorem dL_same_568 : decode cL_same 568 = .ok (.iconst 3, 1) := by decide +kernel
theorem dL_same_569 : decode cL_same 569 = .ok (.invokevirtual 43, 3) := by decide +kernel
theorem dL_same_572 : decode cL_same 572 = .ok (.iload 10, 2) := by decide +kernel
theorem dL_same_574 : decode cL_same 574 = .ok (.aload_n 1, 1) := by decide +kernel
theorem dL_same_575 : decode cL_same 575 = .ok (.aload_n 3, 1) := by decide +kernel
theorem dL_same_576 : decode cL_same 576 = .ok (.invokestatic 25, 3) := by decide +kernel
theorem dL_same_579 : decode cL_same 579 = .ok (.if_icmp .ne 15, 3) := by decide +kernel
theorem dL_same_582 : decode cL_same 582 = .ok (.aload_n 0, 1) := by decide +kernel
theorem dL_same_583 : decode cL_same 583 = .ok (.iload 10, 2) := by decide +kernel
theorem dL_same_585 : decode cL_same 585 = .ok (.iconst 4, 1) := by decide +kernel
theorem dL_same_586 : decode cL_same 586 = .ok (.invokevirtual 43, 3) := by decide +kernel
theorem dL_same_589 : decode cL_same 589 = .ok (.iload 11, 2) := by decide +kernel
theorem dL_same_591 : decode cL_same 591 = .ok (.if_icmp .eq 5, 3) := by decide +kernel
theorem dL_same_594 : decode cL_same 594 = .ok (.iconst 0, 1) := by decide +kernel
theorem dL_same_595 : decode cL_same 595 = .ok (.ireturn, 1) := by decide +kernel
theorem dL_same_596 : decode cL_same 596 = .ok (.iinc 10 1, 3) := by decide +kernel
theorem dL_same_599 : decode cL_same 599 = .ok (.goto (-239), 3) := by decide +kernel
theorem dL_same_602 : decode cL_same 602 = .ok (.iconst 0, 1) := by decide +kernel
theorem dL_same_603 : decode cL_same 603 = .ok (.istore 10, 2) := by decide +kernel
theorem dL_same_605 : decode cL_same 605 = .ok (.iload 10, 2) := by decide +kernel
theorem dL_same_607 : decode cL_same 607 = .ok (.iconst 5, 1) := by decide +kernel
theorem dL_same_608 : decode cL_same 608 = .ok (.if_icmp .ge 27, 3) := by decide +kernel
theorem dL_same_611 : decode cL_same 611 = .ok (.aload_n 0, 1) := by decide +kernel
theorem dL_same_612 : decode cL_same 612 = .ok (.bipush 9, 2) := by decide +kernel
theorem dL_same_614 : decode cL_same 614 = .ok (.iload 10, 2) := by decide +kernel
theorem dL_same_616 : decode cL_same 616 = .ok (.iadd, 1) := by decide +kernel
theorem dL_same_617 : decode cL_same 617 = .ok (.invokevirtual 46, 3) := by decide +kernel
theorem dL_same_620 : decode cL_same 620 = .ok (.aload_n 1, 1) := by decide +kernel
theorem dL_same_621 : decode cL_same 621 = .ok (.iload 10, 2) := by decide +kernel
theorem dL_same_623 : decode cL_same 623 = .ok (.iaload, 1) := by decide +kernel
theorem dL_same_624 : decode cL_same 624 = .ok (.if_icmp .eq 5, 3) := by decide +kernel
theorem dL_same_627 : decode cL_same 627 = .ok (.iconst 0, 1) := by decide +kernel
theorem dL_same_628 : decode cL_same 628 = .ok (.ireturn, 1) := by decide +kernel
theorem dL_same_629 : decode cL_same 629 = .ok (.iinc 10 1, 3) := by decide +kernel
theorem dL_same_632 : decode cL_same 632 = .ok (.goto (-27), 3) := by decide +kernel
theorem dL_same_635 : decode cL_same 635 = .ok (.aload_n 0, 1) := by decide +kernel
theorem dL_same_636 : decode cL_same 636 = .ok (.iload 9, 2) := by decide +kernel
theorem dL_same_638 : decode cL_same 638 = .ok (.invokevirtual 39, 3) := by decide +kernel
theorem dL_same_641 : decode cL_same 641 = .ok (.iconst (-1), 1) := by decide +kernel
theorem dL_same_642 : decode cL_same 642 = .ok (.if_icmp .ne 134, 3) := by decide +kernel
theorem dL_same_645 : decode cL_same 645 = .ok (.aload_n 0, 1) := by decide +kernel
theorem dL_same_646 : decode cL_same 646 = .ok (.bipush 14, 2) := by decide +kernel
theorem dL_same_648 : decode cL_same 648 = .ok (.invokevirtual 46, 3) := by decide +kernel
theorem dL_same_651 : decode cL_same 651 = .ok (.iload 9, 2) := by decide +kernel
theorem dL_same_653 : decode cL_same 653 = .ok (.if_icmp .ne 123, 3) := by decide +kernel
theorem dL_same_656 : decode cL_same 656 = .ok (.aload_n 0, 1) := by decide +kernel
theorem dL_same_657 : decode cL_same 657 = .ok (.iconst 0, 1) := by decide +kernel
theorem dL_same_658 : decode cL_same 658 = .ok (.invokevirtual 46, 3) := by decide +kernel
theorem dL_same_661 : decode cL_same 661 = .ok (.aload_n 1, 1) := by decide +kernel
theorem dL_same_662 : decode cL_same 662 = .ok (.iconst 5, 1) := by decide +kernel
theorem dL_same_663 : decode cL_same 663 = .ok (.iaload, 1) := by decide +kernel
theorem dL_same_664 : decode cL_same 664 = .ok (.if_icmp .ne 112, 3) := by decide +kernel
theorem dL_same_667 : decode cL_same 667 = .ok (.aload_n 0, 1) := by decide +kernel
theorem dL_same_668 : decode cL_same 668 = .ok (.iconst 1, 1) := by decide +kernel
theorem dL_same_669 : decode cL_same 669 = .ok (.invokevirtual 46, 3) := by decide +kernel
theorem dL_same_672 : decode cL_same 672 = .ok (.aload_n 1, 1) := by decide +kernel
theorem dL_same_673 : decode cL_same 673 = .ok (.bipush 6, 2) := by decide +kernel
theorem dL_same_675 : decode cL_same 675 = .ok (.iaload, 1) := by decide +kernel
theorem dL_same_676 : decode cL_same 676 = .ok (.if_icmp .ne 100, 3) := by decide +kernel
theorem dL_same_679 : decode cL_same 679 = .ok (.aload_n 0, 1) := by decide +kernel
theorem dL_same_680 : decode cL_same 680 = .ok (.iconst 2, 1) := by decide +kernel
theorem dL_same_681 : decode cL_same 681 = .ok (.invokevirtual 46, 3) := by decide +kernel
theorem dL_same_684 : decode cL_same 684 = .ok (.aload_n 1, 1) := by decide +kernel
theorem dL_same_685 : decode cL_same 685 = .ok (.bipush 6, 2) := by decide +kernel
theorem dL_same_687 : decode cL_same 687 = .ok (.iaload, 1) := by decide +kernel
theorem dL_same_688 : decode cL_same 688 = .ok (.ifCond .ne 8, 3) := by decide +kernel
theorem dL_same_691 : decode cL_same 691 = .ok (.bipush (-6), 2) := by decide +kernel
theorem dL_same_693 : decode cL_same 693 = .ok (.goto 7, 3) := by decide +kernel
theorem dL_same_696 : decode cL_same 696 = .ok (.aload_n 1, 1) := by decide +kernel
theorem dL_same_697 : decode cL_same 697 = .ok (.bipush 7, 2) := by decide +kernel
theorem dL_same_699 : decode cL_same 699 = .ok (.iaload, 1) := by decide +kernel
theorem dL_same_700 : decode cL_same 700 = .ok (.if_icmp .ne 76, 3) := by decide +kernel
theorem dL_same_703 : decode cL_same 703 = .ok (.aload_n 0, 1) := by decide +kernel
theorem dL_same_704 : decode cL_same 704 = .ok (.iconst 3, 1) := by decide +kernel
theorem dL_same_705 : decode cL_same 705 = .ok (.invokevirtual 46, 3) := by decide +kernel
theorem dL_same_708 : decode cL_same 708 = .ok (.iload 7, 2) := by decide +kernel
theorem dL_same_710 : decode cL_same 710 = .ok (.if_icmp .ne 66, 3) := by decide +kernel
theorem dL_same_713 : decode cL_same 713 = .ok (.aload_n 0, 1) := by decide +kernel
theorem dL_same_714 : decode cL_same 714 = .ok (.iconst 4, 1) := by decide +kernel
theorem dL_same_715 : decode cL_same 715 = .ok (.invokevirtual 46, 3) := by decide +kernel
theorem dL_same_718 : decode cL_same 718 = .ok (.iload 6, 2) := by decide +kernel
theorem dL_same_720 : decode cL_same 720 = .ok (.if_icmp .ne 56, 3) := by decide +kernel
theorem dL_same_723 : decode cL_same 723 = .ok (.aload_n 0, 1) := by decide +kernel
theorem dL_same_724 : decode cL_same 724 = .ok (.iconst 5, 1) := by decide +kernel
theorem dL_same_725 : decode cL_same 725 = .ok (.invokevirtual 46, 3) := by decide +kernel
theorem dL_same_728 : decode cL_same 728 = .ok (.iload 8, 2) := by decide +kernel
theorem dL_same_730 : decode cL_same 730 = .ok (.if_icmp .ne 46, 3) := by decide +kernel
theorem dL_same_733 : decode cL_same 733 = .ok (.aload_n 0, 1) := by decide +kernel
theorem dL_same_734 : decode cL_same 734 = .ok (.bipush 6, 2) := by decide +kernel
theorem dL_same_736 : decode cL_same 736 = .ok (.invokevirtual 46, 3) := by decide +kernel
theorem dL_same_739 : decode cL_same 739 = .ok (.aload_n 1, 1) := by decide +kernel
theorem dL_same_740 : decode cL_same 740 = .ok (.bipush 9, 2) := by decide +kernel
theorem dL_same_742 : decode cL_same 742 = .ok (.iaload, 1) := by decide +kernel
theorem dL_same_743 : decode cL_same 743 = .ok (.if_icmp .ne 33, 3) := by decide +kernel
theorem dL_same_746 : decode cL_same 746 = .ok (.aload_n 0, 1) := by decide +kernel
theorem dL_same_747 : decode cL_same 747 = .ok (.bipush 7, 2) := by decide +kernel
theorem dL_same_749 : decode cL_same 749 = .ok (.invokevirtual 46, 3) := by decide +kernel
theorem dL_same_752 : decode cL_same 752 = .ok (.aload_n 1, 1) := by decide +kernel
theorem dL_same_753 : decode cL_same 753 = .ok (.bipush 10, 2) := by decide +kernel
theorem dL_same_755 : decode cL_same 755 = .ok (.iaload, 1) := by decide +kernel
theorem dL_same_756 : decode cL_same 756 = .ok (.if_icmp .ne 20, 3) := by decide +kernel
theorem dL_same_759 : decode cL_same 759 = .ok (.aload_n 0, 1) := by decide +kernel
theorem dL_same_760 : decode cL_same 760 = .ok (.bipush 8, 2) := by decide +kernel
theorem dL_same_762 : decode cL_same 762 = .ok (.invokevirtual 46, 3) := by decide +kernel
theorem dL_same_765 : decode cL_same 765 = .ok (.aload_n 1, 1) := by decide +kernel
theorem dL_same_766 : decode cL_same 766 = .ok (.bipush 8, 2) := by decide +kernel
theorem dL_same_768 : decode cL_same 768 = .ok (.iaload, 1) := by decide +kernel
theorem dL_same_769 : decode cL_same 769 = .ok (.if_icmp .ne 7, 3) := by decide +kernel
theorem dL_same_772 : decode cL_same 772 = .ok (.iconst 1, 1) := by decide +kernel
theorem dL_same_773 : decode cL_same 773 = .ok (.goto 4, 3) := by decide +kernel
theorem dL_same_776 : decode cL_same 776 = .ok (.iconst 0, 1) := by decide +kernel
theorem dL_same_777 : decode cL_same 777 = .ok (.ireturn, 1) := by decide +kernel
theorem dL_copy_0 : decode cL_copy 0 = .ok (.iconst 0, 1) := by decide +kernel
theorem dL_copy_1 : decode cL_copy 1 = .ok (.istore 10, 2) := by decide +kernel
theorem dL_copy_3 : decode cL_copy 3 = .ok (.iload 10, 2) := by decide +kernel
theorem dL_copy_5 : decode cL_copy 5 = .ok (.bipush 11, 2) := by decide +kernel
theorem dL_copy_7 : decode cL_copy 7 = .ok (.if_icmp .ge 18, 3) := by decide +kernel
theorem dL_copy_10 : decode cL_copy 10 = .ok (.aload 5, 2) := by decide +kernel
theorem dL_copy_12 : decode cL_copy 12 = .ok (.iload 10, 2) := by decide +kernel
theorem dL_copy_14 : decode cL_copy 14 = .ok (.aload_n 0, 1) := by decide +kernel
theorem dL_copy_15 : decode cL_copy 15 = .ok (.iload 10, 2) := by decide +kernel
theorem dL_copy_17 : decode cL_copy 17 = .ok (.iaload, 1) := by decide +kernel
theorem dL_copy_18 : decode cL_copy 18 = .ok (.iastore, 1) := by decide +kernel
theorem dL_copy_19 : decode cL_copy 19 = .ok (.iinc 10 1, 3) := by decide +kernel
theorem dL_copy_22 : decode cL_copy 22 = .ok (.goto (-19), 3) := by decide +kernel
theorem dL_copy_25 : decode cL_copy 25 = .ok (.iconst 0, 1) := by decide +kernel
theorem dL_copy_26 : decode cL_copy 26 = .ok (.istore 10, 2) := by decide +kernel
theorem dL_copy_28 : decode cL_copy 28 = .ok (.iload 10, 2) := by decide +kernel
theorem dL_copy_30 : decode cL_copy 30 = .ok (.bipush 24, 2) := by decide +kernel
theorem dL_copy_32 : decode cL_copy 32 = .ok (.if_icmp .ge 18, 3) := by decide +kernel
theorem dL_copy_35 : decode cL_copy 35 = .ok (.aload 6, 2) := by decide +kernel
theorem dL_copy_37 : decode cL_copy 37 = .ok (.iload 10, 2) := by decide +kernel
theorem dL_copy_39 : decode cL_copy 39 = .ok (.aload_n 1, 1) := by decide +kernel
theorem dL_copy_40 : decode cL_copy 40 = .ok (.iload 10, 2) := by decide +kernel
theorem dL_copy_42 : decode cL_copy 42 = .ok (.iaload, 1) := by decide +kernel
theorem dL_copy_43 : decode cL_copy 43 = .ok (.iastore, 1) := by decide +kernel
theorem dL_copy_44 : decode cL_copy 44 = .ok (.iinc 10 1, 3) := by decide +kernel
theorem dL_copy_47 : decode cL_copy 47 = .ok (.goto (-19), 3) := by decide +kernel
theorem dL_copy_50 : decode cL_copy 50 = .ok (.iconst 0, 1) := by decide +kernel
theorem dL_copy_51 : decode cL_copy 51 = .ok (.istore 10, 2) := by decide +kernel
theorem dL_copy_53 : decode cL_copy 53 = .ok (.iload 10, 2) := by decide +kernel
theorem dL_copy_55 : decode cL_copy 55 = .ok (.bipush 40, 2) := by decide +kernel
theorem dL_copy_57 : decode cL_copy 57 = .ok (.if_icmp .ge 18, 3) := by decide +kernel
theorem dL_copy_60 : decode cL_copy 60 = .ok (.aload 7, 2) := by decide +kernel
theorem dL_copy_62 : decode cL_copy 62 = .ok (.iload 10, 2) := by decide +kernel
theorem dL_copy_64 : decode cL_copy 64 = .ok (.aload_n 2, 1) := by decide +kernel
theorem dL_copy_65 : decode cL_copy 65 = .ok (.iload 10, 2) := by decide +kernel
theorem dL_copy_67 : decode cL_copy 67 = .ok (.iaload, 1) := by decide +kernel
theorem dL_copy_68 : decode cL_copy 68 = .ok (.iastore, 1) := by decide +kernel
theorem dL_copy_69 : decode cL_copy 69 = .ok (.iinc 10 1, 3) := by decide +kernel
theorem dL_copy_72 : decode cL_copy 72 = .ok (.goto (-19), 3) := by decide +kernel
theorem dL_copy_75 : decode cL_copy 75 = .ok (.iconst 0, 1) := by decide +kernel
theorem dL_copy_76 : decode cL_copy 76 = .ok (.istore 10, 2) := by decide +kernel
theorem dL_copy_78 : decode cL_copy 78 = .ok (.iload 10, 2) := by decide +kernel
theorem dL_copy_80 : decode cL_copy 80 = .ok (.bipush 16, 2) := by decide +kernel
theorem dL_copy_82 : decode cL_copy 82 = .ok (.if_icmp .ge 28, 3) := by decide +kernel
theorem dL_copy_85 : decode cL_copy 85 = .ok (.aload 8, 2) := by decide +kernel
theorem dL_copy_87 : decode cL_copy 87 = .ok (.iload 10, 2) := by decide +kernel
theorem dL_copy_89 : decode cL_copy 89 = .ok (.aload_n 3, 1) := by decide +kernel
theorem dL_copy_90 : decode cL_copy 90 = .ok (.iload 10, 2) := by decide +kernel
theorem dL_copy_92 : decode cL_copy 92 = .ok (.iaload, 1) := by decide +kernel
