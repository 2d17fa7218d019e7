theorem dL_copy_93 : decode cL_copy 93 = .ok (.iastore, 1) := by decide +kernel
theorem dL_copy_94 : decode cL_copy 94 = .ok (.aload 9, 2) := by decide +kernel
theorem dL_copy_96 : decode cL_copy 96 = .ok (.iload 10, 2) := by decide +kernel
theorem dL_copy_98 : decode cL_copy 98 = .ok (.aload 4, 2) := by decide +kernel
theorem dL_copy_100 : decode cL_copy 100 = .ok (.iload 10, 2) := by decide +kernel
theorem dL_copy_102 : decode cL_copy 102 = .ok (.iaload, 1) := by decide +kernel
theorem dL_copy_103 : decode cL_copy 103 = .ok (.iastore, 1) := by decide +kernel
theorem dL_copy_104 : decode cL_copy 104 = .ok (.iinc 10 1, 3) := by decide +kernel
theorem dL_copy_107 : decode cL_copy 107 = .ok (.goto (-29), 3) := by decide +kernel
theorem dL_copy_110 : decode cL_copy 110 = .ok (.return_, 1) := by decide +kernel
theorem dL_would_0 : decode cL_would 0 = .ok (.iload_n 1, 1) := by decide +kernel
theorem dL_would_1 : decode cL_would 1 = .ok (.aload_n 2, 1) := by decide +kernel
theorem dL_would_2 : decode cL_would 2 = .ok (.bipush 6, 2) := by decide +kernel
theorem dL_would_4 : decode cL_would 4 = .ok (.iaload, 1) := by decide +kernel
theorem dL_would_5 : decode cL_would 5 = .ok (.invokestatic 49, 3) := by decide +kernel
theorem dL_would_8 : decode cL_would 8 = .ok (.istore 12, 2) := by decide +kernel
theorem dL_would_10 : decode cL_would 10 = .ok (.iconst 1, 1) := by decide +kernel
theorem dL_would_11 : decode cL_would 11 = .ok (.iload_n 1, 1) := by decide +kernel
theorem dL_would_12 : decode cL_would 12 = .ok (.iconst 3, 1) := by decide +kernel
theorem dL_would_13 : decode cL_would 13 = .ok (.ishr, 1) := by decide +kernel
theorem dL_would_14 : decode cL_would 14 = .ok (.bipush 60, 2) := by decide +kernel
theorem dL_would_16 : decode cL_would 16 = .ok (.invokestatic 49, 3) := by decide +kernel
theorem dL_would_19 : decode cL_would 19 = .ok (.iadd, 1) := by decide +kernel
theorem dL_would_20 : decode cL_would 20 = .ok (.istore 13, 2) := by decide +kernel
theorem dL_would_22 : decode cL_would 22 = .ok (.iconst 0, 1) := by decide +kernel
theorem dL_would_23 : decode cL_would 23 = .ok (.istore 14, 2) := by decide +kernel
theorem dL_would_25 : decode cL_would 25 = .ok (.aload_n 2, 1) := by decide +kernel
theorem dL_would_26 : decode cL_would 26 = .ok (.aload_n 3, 1) := by decide +kernel
theorem dL_would_27 : decode cL_would 27 = .ok (.aload 4, 2) := by decide +kernel
theorem dL_would_29 : decode cL_would 29 = .ok (.aload 5, 2) := by decide +kernel
theorem dL_would_31 : decode cL_would 31 = .ok (.aload 6, 2) := by decide +kernel
theorem dL_would_33 : decode cL_would 33 = .ok (.aload 7, 2) := by decide +kernel
theorem dL_would_35 : decode cL_would 35 = .ok (.aload 8, 2) := by decide +kernel
theorem dL_would_37 : decode cL_would 37 = .ok (.aload 9, 2) := by decide +kernel
theorem dL_would_39 : decode cL_would 39 = .ok (.aload 10, 2) := by decide +kernel
theorem dL_would_41 : decode cL_would 41 = .ok (.aload 11, 2) := by decide +kernel
theorem dL_would_43 : decode cL_would 43 = .ok (.invokestatic 52, 3) := by decide +kernel
theorem dL_would_46 : decode cL_would 46 = .ok (.aload 8, 2) := by decide +kernel
theorem dL_would_48 : decode cL_would 48 = .ok (.bipush 6, 2) := by decide +kernel
theorem dL_would_50 : decode cL_would 50 = .ok (.iload 12, 2) := by decide +kernel
theorem dL_would_52 : decode cL_would 52 = .ok (.imul, 1) := by decide +kernel
theorem dL_would_53 : decode cL_would 53 = .ok (.iaload, 1) := by decide +kernel
theorem dL_would_54 : decode cL_would 54 = .ok (.ifCond .le 30, 3) := by decide +kernel
theorem dL_would_57 : decode cL_would 57 = .ok (.iload 14, 2) := by decide +kernel
theorem dL_would_59 : decode cL_would 59 = .ok (.sipush 401, 3) := by decide +kernel
theorem dL_would_62 : decode cL_would 62 = .ok (.if_icmp .ge 22, 3) := by decide +kernel
theorem dL_would_65 : decode cL_would 65 = .ok (.aload 7, 2) := by decide +kernel
theorem dL_would_67 : decode cL_would 67 = .ok (.aload 8, 2) := by decide +kernel
theorem dL_would_69 : decode cL_would 69 = .ok (.aload 9, 2) := by decide +kernel
theorem dL_would_71 : decode cL_would 71 = .ok (.aload 10, 2) := by decide +kernel
theorem dL_would_73 : decode cL_would 73 = .ok (.aload 11, 2) := by decide +kernel
theorem dL_would_75 : decode cL_would 75 = .ok (.invokestatic 56, 3) := by decide +kernel
theorem dL_would_78 : decode cL_would 78 = .ok (.iinc 14 1, 3) := by decide +kernel
theorem dL_would_81 : decode cL_would 81 = .ok (.goto (-35), 3) := by decide +kernel
theorem dL_would_84 : decode cL_would 84 = .ok (.aload_n 0, 1) := by decide +kernel
theorem dL_would_85 : decode cL_would 85 = .ok (.iload 12, 2) := by decide +kernel
theorem dL_would_87 : decode cL_would 87 = .ok (.invokevirtual 60, 3) := by decide +kernel
theorem dL_would_90 : decode cL_would 90 = .ok (.iload 14, 2) := by decide +kernel
theorem dL_would_92 : decode cL_would 92 = .ok (.sipush 400, 3) := by decide +kernel
theorem dL_would_95 : decode cL_would 95 = .ok (.if_icmp .le 8, 3) := by decide +kernel
theorem dL_would_98 : decode cL_would 98 = .ok (.bipush (-6), 2) := by decide +kernel
theorem dL_would_100 : decode cL_would 100 = .ok (.goto 5, 3) := by decide +kernel
theorem dL_would_103 : decode cL_would 103 = .ok (.iload 14, 2) := by decide +kernel
theorem dL_would_105 : decode cL_would 105 = .ok (.if_icmp .eq 5, 3) := by decide +kernel
theorem dL_would_108 : decode cL_would 108 = .ok (.iconst 0, 1) := by decide +kernel
theorem dL_would_109 : decode cL_would 109 = .ok (.ireturn, 1) := by decide +kernel
theorem dL_would_110 : decode cL_would 110 = .ok (.aload_n 2, 1) := by decide +kernel
theorem dL_would_111 : decode cL_would 111 = .ok (.aload_n 3, 1) := by decide +kernel
theorem dL_would_112 : decode cL_would 112 = .ok (.aload 4, 2) := by decide +kernel
theorem dL_would_114 : decode cL_would 114 = .ok (.aload 5, 2) := by decide +kernel
theorem dL_would_116 : decode cL_would 116 = .ok (.aload 6, 2) := by decide +kernel
theorem dL_would_118 : decode cL_would 118 = .ok (.aload 7, 2) := by decide +kernel
theorem dL_would_120 : decode cL_would 120 = .ok (.aload 8, 2) := by decide +kernel
theorem dL_would_122 : decode cL_would 122 = .ok (.aload 9, 2) := by decide +kernel
theorem dL_would_124 : decode cL_would 124 = .ok (.aload 10, 2) := by decide +kernel
theorem dL_would_126 : decode cL_would 126 = .ok (.aload 11, 2) := by decide +kernel
theorem dL_would_128 : decode cL_would 128 = .ok (.invokestatic 52, 3) := by decide +kernel
theorem dL_would_131 : decode cL_would 131 = .ok (.iconst 0, 1) := by decide +kernel
theorem dL_would_132 : decode cL_would 132 = .ok (.istore 15, 2) := by decide +kernel
theorem dL_would_134 : decode cL_would 134 = .ok (.iload 15, 2) := by decide +kernel
theorem dL_would_136 : decode cL_would 136 = .ok (.iload 13, 2) := by decide +kernel
theorem dL_would_138 : decode cL_would 138 = .ok (.if_icmp .ge 22, 3) := by decide +kernel
theorem dL_would_141 : decode cL_would 141 = .ok (.aload 7, 2) := by decide +kernel
theorem dL_would_143 : decode cL_would 143 = .ok (.aload 8, 2) := by decide +kernel
theorem dL_would_145 : decode cL_would 145 = .ok (.aload 9, 2) := by decide +kernel
theorem dL_would_147 : decode cL_would 147 = .ok (.aload 10, 2) := by decide +kernel
theorem dL_would_149 : decode cL_would 149 = .ok (.aload 11, 2) := by decide +kernel
theorem dL_would_151 : decode cL_would 151 = .ok (.invokestatic 56, 3) := by decide +kernel
theorem dL_would_154 : decode cL_would 154 = .ok (.iinc 15 1, 3) := by decide +kernel
theorem dL_would_157 : decode cL_would 157 = .ok (.goto (-23), 3) := by decide +kernel
theorem dL_would_160 : decode cL_would 160 = .ok (.aload_n 0, 1) := by decide +kernel
theorem dL_would_161 : decode cL_would 161 = .ok (.iload 12, 2) := by decide +kernel
theorem dL_would_163 : decode cL_would 163 = .ok (.iload 13, 2) := by decide +kernel
theorem dL_would_165 : decode cL_would 165 = .ok (.invokevirtual 63, 3) := by decide +kernel
theorem dL_would_168 : decode cL_would 168 = .ok (.aload 8, 2) := by decide +kernel
theorem dL_would_170 : decode cL_would 170 = .ok (.bipush 6, 2) := by decide +kernel
theorem dL_would_172 : decode cL_would 172 = .ok (.iload 12, 2) := by decide +kernel
theorem dL_would_174 : decode cL_would 174 = .ok (.imul, 1) := by decide +kernel
theorem dL_would_175 : decode cL_would 175 = .ok (.iaload, 1) := by decide +kernel
theorem dL_would_176 : decode cL_would 176 = .ok (.if_icmp .eq 5, 3) := by decide +kernel
theorem dL_would_179 : decode cL_would 179 = .ok (.iconst 0, 1) := by decide +kernel
theorem dL_would_180 : decode cL_would 180 = .ok (.ireturn, 1) := by decide +kernel
theorem dL_would_181 : decode cL_would 181 = .ok (.iconst 0, 1) := by decide +kernel
theorem dL_would_182 : decode cL_would 182 = .ok (.istore 15, 2) := by decide +kernel
theorem dL_would_184 : decode cL_would 184 = .ok (.ldc 66, 2) := by decide +kernel
theorem dL_would_186 : decode cL_would 186 = .ok (.istore 16, 2) := by decide +kernel
theorem dL_would_188 : decode cL_would 188 = .ok (.bipush 49, 2) := by decide +kernel
theorem dL_would_190 : decode cL_would 190 = .ok (.istore 17, 2) := by decide +kernel
theorem dL_would_192 : decode cL_would 192 = .ok (.iload 17, 2) := by decide +kernel
theorem dL_would_194 : decode cL_would 194 = .ok (.ifCond .lt 135, 3) := by decide +kernel
theorem dL_would_197 : decode cL_would 197 = .ok (.aload_n 2, 1) := by decide +kernel
theorem dL_would_198 : decode cL_would 198 = .ok (.aload_n 3, 1) := by decide +kernel
theorem dL_would_199 : decode cL_would 199 = .ok (.aload 4, 2) := by decide +kernel
theorem dL_would_201 : decode cL_would 201 = .ok (.aload 5, 2) := by decide +kernel
theorem dL_would_203 : decode cL_would 203 = .ok (.aload 6, 2) := by decide +kernel
theorem dL_would_205 : decode cL_would 205 = .ok (.aload 7, 2) := by decide +kernel
theorem dL_would_207 : decode cL_would 207 = .ok (.aload 8, 2) := by decide +kernel
theorem dL_would_209 : decode cL_would 209 = .ok (.aload 9, 2) := by decide +kernel
theorem dL_would_211 : decode cL_would 211 = .ok (.aload 10, 2) := by decide +kernel
theorem dL_would_213 : decode cL_would 213 = .ok (.aload 11, 2) := by decide +kernel
theorem dL_would_215 : decode cL_would 215 = .ok (.invokestatic 52, 3) := by decide +kernel
theorem dL_would_218 : decode cL_would 218 = .ok (.aload 7, 2) := by decide +kernel
theorem dL_would_220 : decode cL_would 220 = .ok (.bipush 8, 2) := by decide +kernel
theorem dL_would_222 : decode cL_would 222 = .ok (.iload 17, 2) := by decide +kernel
theorem dL_would_224 : decode cL_would 224 = .ok (.iastore, 1) := by decide +kernel
theorem dL_would_225 : decode cL_would 225 = .ok (.iconst 0, 1) := by decide +kernel
theorem dL_would_226 : decode cL_would 226 = .ok (.istore 18, 2) := by decide +kernel
theorem dL_would_228 : decode cL_would 228 = .ok (.iload 18, 2) := by decide +kernel
theorem dL_would_230 : decode cL_would 230 = .ok (.iload 13, 2) := by decide +kernel
theorem dL_would_232 : decode cL_would 232 = .ok (.if_icmp .ge 22, 3) := by decide +kernel
theorem dL_would_235 : decode cL_would 235 = .ok (.aload 7, 2) := by decide +kernel
theorem dL_would_237 : decode cL_would 237 = .ok (.aload 8, 2) := by decide +kernel
theorem dL_would_239 : decode cL_would 239 = .ok (.aload 9, 2) := by decide +kernel
theorem dL_would_241 : decode cL_would 241 = .ok (.aload 10, 2) := by decide +kernel
theorem dL_would_243 : decode cL_would 243 = .ok (.aload 11, 2) := by decide +kernel
theorem dL_would_245 : decode cL_would 245 = .ok (.invokestatic 56, 3) := by decide +kernel
theorem dL_would_248 : decode cL_would 248 = .ok (.iinc 18 1, 3) := by decide +kernel
theorem dL_would_251 : decode cL_would 251 = .ok (.goto (-23), 3) := by decide +kernel
theorem dL_would_254 : decode cL_would 254 = .ok (.aload 8, 2) := by decide +kernel
theorem dL_would_256 : decode cL_would 256 = .ok (.bipush 6, 2) := by decide +kernel
theorem dL_would_258 : decode cL_would 258 = .ok (.iload 12, 2) := by decide +kernel
theorem dL_would_260 : decode cL_would 260 = .ok (.imul, 1) := by decide +kernel
theorem dL_would_261 : decode cL_would 261 = .ok (.iaload, 1) := by decide +kernel
theorem dL_would_262 : decode cL_would 262 = .ok (.istore 18, 2) := by decide +kernel
theorem dL_would_264 : decode cL_would 264 = .ok (.iconst 0, 1) := by decide +kernel
theorem dL_would_265 : decode cL_would 265 = .ok (.istore 19, 2) := by decide +kernel
theorem dL_would_267 : decode cL_would 267 = .ok (.iload 19, 2) := by decide +kernel
theorem dL_would_269 : decode cL_would 269 = .ok (.iconst 4, 1) := by decide +kernel
theorem dL_would_270 : decode cL_would 270 = .ok (.if_icmp .ge 35, 3) := by decide +kernel
theorem dL_would_273 : decode cL_would 273 = .ok (.iload 18, 2) := by decide +kernel
theorem dL_would_275 : decode cL_would 275 = .ok (.aload 10, 2) := by decide +kernel
theorem dL_would_277 : decode cL_would 277 = .ok (.iconst 4, 1) := by decide +kernel
theorem dL_would_278 : decode cL_would 278 = .ok (.iload 19, 2) := by decide +kernel
theorem dL_would_280 : decode cL_would 280 = .ok (.imul, 1) := by decide +kernel
theorem dL_would_281 : decode cL_would 281 = .ok (.iload 12, 2) := by decide +kernel
theorem dL_would_283 : decode cL_would 283 = .ok (.iadd, 1) := by decide +kernel
theorem dL_would_284 : decode cL_would 284 = .ok (.iaload, 1) := by decide +kernel
theorem dL_would_285 : decode cL_would 285 = .ok (.aload 10, 2) := by decide +kernel
theorem dL_would_287 : decode cL_would 287 = .ok (.iconst 4, 1) := by decide +kernel
theorem dL_would_288 : decode cL_would 288 = .ok (.iload 12, 2) := by decide +kernel
theorem dL_would_290 : decode cL_would 290 = .ok (.imul, 1) := by decide +kernel
theorem dL_would_291 : decode cL_would 291 = .ok (.iload 19, 2) := by decide +kernel
theorem dL_would_293 : decode cL_would 293 = .ok (.iadd, 1) := by decide +kernel
theorem dL_would_294 : decode cL_would 294 = .ok (.iaload, 1) := by decide +kernel
theorem dL_would_295 : decode cL_would 295 = .ok (.isub, 1) := by decide +kernel
theorem dL_would_296 : decode cL_would 296 = .ok (.iadd, 1) := by decide +kernel
theorem dL_would_297 : decode cL_would 297 = .ok (.istore 18, 2) := by decide +kernel
theorem dL_would_299 : decode cL_would 299 = .ok (.iinc 19 1, 3) := by decide +kernel
theorem dL_would_302 : decode cL_would 302 = .ok (.goto (-35), 3) := by decide +kernel
theorem dL_would_305 : decode cL_would 305 = .ok (.iload 18, 2) := by decide +kernel
theorem dL_would_307 : decode cL_would 307 = .ok (.iload 16, 2) := by decide +kernel
theorem dL_would_309 : decode cL_would 309 = .ok (.if_icmp .ge 6, 3) := by decide +kernel
theorem dL_would_312 : decode cL_would 312 = .ok (.goto 11, 3) := by decide +kernel
theorem dL_would_315 : decode cL_would 315 = .ok (.iload 18, 2) := by decide +kernel
theorem dL_would_317 : decode cL_would 317 = .ok (.istore 16, 2) := by decide +kernel
theorem dL_would_319 : decode cL_would 319 = .ok (.iload 17, 2) := by decide +kernel
theorem dL_would_321 : decode cL_would 321 = .ok (.istore 15, 2) := by decide +kernel
theorem dL_would_323 : decode cL_would 323 = .ok (.iinc 17 (-1), 3) := by decide +kernel
theorem dL_would_326 : decode cL_would 326 = .ok (.goto (-134), 3) := by decide +kernel
theorem dL_would_329 : decode cL_would 329 = .ok (.aload_n 0, 1) := by decide +kernel
theorem dL_would_330 : decode cL_would 330 = .ok (.iload 12, 2) := by decide +kernel
theorem dL_would_332 : decode cL_would 332 = .ok (.iload 13, 2) := by decide +kernel
theorem dL_would_334 : decode cL_would 334 = .ok (.invokevirtual 67, 3) := by decide +kernel
theorem dL_would_337 : decode cL_would 337 = .ok (.iload 15, 2) := by decide +kernel
theorem dL_would_339 : decode cL_would 339 = .ok (.if_icmp .eq 5, 3) := by decide +kernel
theorem dL_would_342 : decode cL_would 342 = .ok (.iconst 0, 1) := by decide +kernel
theorem dL_would_343 : decode cL_would 343 = .ok (.ireturn, 1) := by decide +kernel
theorem dL_would_344 : decode cL_would 344 = .ok (.iload_n 1, 1) := by decide +kernel
theorem dL_would_345 : decode cL_would 345 = .ok (.bipush 6, 2) := by decide +kernel
theorem dL_would_347 : decode cL_would 347 = .ok (.ishr, 1) := by decide +kernel
theorem dL_would_348 : decode cL_would 348 = .ok (.aload_n 2, 1) := by decide +kernel
theorem dL_would_349 : decode cL_would 349 = .ok (.bipush 6, 2) := by decide +kernel
theorem dL_would_351 : decode cL_would 351 = .ok (.iaload, 1) := by decide +kernel
theorem dL_would_352 : decode cL_would 352 = .ok (.invokestatic 49, 3) := by decide +kernel
theorem dL_would_355 : decode cL_would 355 = .ok (.istore 17, 2) := by decide +kernel
theorem dL_would_357 : decode cL_would 357 = .ok (.iconst 1, 1) := by decide +kernel
theorem dL_would_358 : decode cL_would 358 = .ok (.iload 12, 2) := by decide +kernel
theorem dL_would_360 : decode cL_would 360 = .ok (.ishl, 1) := by decide +kernel
theorem dL_would_361 : decode cL_would 361 = .ok (.istore 18, 2) := by decide +kernel
theorem dL_would_363 : decode cL_would 363 = .ok (.bipush (-6), 2) := by decide +kernel
theorem dL_would_365 : decode cL_would 365 = .ok (.istore 19, 2) := by decide +kernel
theorem dL_would_367 : decode cL_would 367 = .ok (.iconst 1, 1) := by decide +kernel
theorem dL_would_368 : decode cL_would 368 = .ok (.istore 20, 2) := by decide +kernel
theorem dL_would_370 : decode cL_would 370 = .ok (.iload 20, 2) := by decide +kernel
theorem dL_would_372 : decode cL_would 372 = .ok (.iconst 5, 1) := by decide +kernel
theorem dL_would_373 : decode cL_would 373 = .ok (.if_icmp .ge 108, 3) := by decide +kernel
theorem dL_would_376 : decode cL_would 376 = .ok (.iload 19, 2) := by decide +kernel
theorem dL_would_378 : decode cL_would 378 = .ok (.ifCond .ge 103, 3) := by decide +kernel
theorem dL_would_381 : decode cL_would 381 = .ok (.iconst 0, 1) := by decide +kernel
theorem dL_would_382 : decode cL_would 382 = .ok (.istore 21, 2) := by decide +kernel
theorem dL_would_384 : decode cL_would 384 = .ok (.iconst 0, 1) := by decide +kernel
theorem dL_would_385 : decode cL_would 385 = .ok (.istore 22, 2) := by decide +kernel
theorem dL_would_387 : decode cL_would 387 = .ok (.iload 22, 2) := by decide +kernel
theorem dL_would_389 : decode cL_would 389 = .ok (.iconst 4, 1) := by decide +kernel
theorem dL_would_390 : decode cL_would 390 = .ok (.if_icmp .ge 61, 3) := by decide +kernel
theorem dL_would_393 : decode cL_would 393 = .ok (.iconst 0, 1) := by decide +kernel
theorem dL_would_394 : decode cL_would 394 = .ok (.istore 23, 2) := by decide +kernel
theorem dL_would_396 : decode cL_would 396 = .ok (.iload 23, 2) := by decide +kernel
theorem dL_would_398 : decode cL_would 398 = .ok (.iconst 4, 1) := by decide +kernel
theorem dL_would_399 : decode cL_would 399 = .ok (.if_icmp .ge 46, 3) := by decide +kernel
theorem dL_would_402 : decode cL_would 402 = .ok (.iload 21, 2) := by decide +kernel
theorem dL_would_404 : decode cL_would 404 = .ok (.iload 18, 2) := by decide +kernel
theorem dL_would_406 : decode cL_would 406 = .ok (.iload 22, 2) := by decide +kernel
theorem dL_would_408 : decode cL_would 408 = .ok (.ishr, 1) := by decide +kernel
theorem dL_would_409 : decode cL_would 409 = .ok (.iconst 1, 1) := by decide +kernel
theorem dL_would_410 : decode cL_would 410 = .ok (.iand, 1) := by decide +kernel
theorem dL_would_411 : decode cL_would 411 = .ok (.iconst 1, 1) := by decide +kernel
theorem dL_would_412 : decode cL_would 412 = .ok (.if_icmp .ne 23, 3) := by decide +kernel
theorem dL_would_415 : decode cL_would 415 = .ok (.aload 5, 2) := by decide +kernel
theorem dL_would_417 : decode cL_would 417 = .ok (.iconst 4, 1) := by decide +kernel
theorem dL_would_418 : decode cL_would 418 = .ok (.iload 22, 2) := by decide +kernel
theorem dL_would_420 : decode cL_would 420 = .ok (.imul, 1) := by decide +kernel
theorem dL_would_421 : decode cL_would 421 = .ok (.iload 23, 2) := by decide +kernel
theorem dL_would_423 : decode cL_would 423 = .ok (.iadd, 1) := by decide +kernel
theorem dL_would_424 : decode cL_would 424 = .ok (.iaload, 1) := by decide +kernel
theorem dL_would_425 : decode cL_would 425 = .ok (.ifCond .le 10, 3) := by decide +kernel
theorem dL_would_428 : decode cL_would 428 = .ok (.iconst 1, 1) := by decide +kernel
theorem dL_would_429 : decode cL_would 429 = .ok (.iload 23, 2) := by decide +kernel
theorem dL_would_431 : decode cL_would 431 = .ok (.ishl, 1) := by decide +kernel
theorem dL_would_432 : decode cL_would 432 = .ok (.goto 4, 3) := by decide +kernel
theorem dL_would_435 : decode cL_would 435 = .ok (.iconst 0, 1) := by decide +kernel
theorem dL_would_436 : decode cL_would 436 = .ok (.ior, 1) := by decide +kernel
theorem dL_would_437 : decode cL_would 437 = .ok (.istore 21, 2) := by decide +kernel
theorem dL_would_439 : decode cL_would 439 = .ok (.iinc 23 1, 3) := by decide +kernel
theorem dL_would_442 : decode cL_would 442 = .ok (.goto (-46), 3) := by decide +kernel
theorem dL_would_445 : decode cL_would 445 = .ok (.iinc 22 1, 3) := by decide +kernel
theorem dL_would_448 : decode cL_would 448 = .ok (.goto (-61), 3) := by decide +kernel
theorem dL_would_451 : decode cL_would 451 = .ok (.iload 21, 2) := by decide +kernel
theorem dL_would_453 : decode cL_would 453 = .ok (.iload 17, 2) := by decide +kernel
theorem dL_would_455 : decode cL_would 455 = .ok (.ishr, 1) := by decide +kernel
theorem dL_would_456 : decode cL_would 456 = .ok (.iconst 1, 1) := by decide +kernel
theorem dL_would_457 : decode cL_would 457 = .ok (.iand, 1) := by decide +kernel
theorem dL_would_458 : decode cL_would 458 = .ok (.iconst 1, 1) := by decide +kernel
theorem dL_would_459 : decode cL_would 459 = .ok (.if_icmp .ne 8, 3) := by decide +kernel
theorem dL_would_462 : decode cL_would 462 = .ok (.iload 20, 2) := by decide +kernel
theorem dL_would_464 : decode cL_would 464 = .ok (.goto 5, 3) := by decide +kernel
theorem dL_would_467 : decode cL_would 467 = .ok (.iload 19, 2) := by decide +kernel
theorem dL_would_469 : decode cL_would 469 = .ok (.istore 19, 2) := by decide +kernel
theorem dL_would_471 : decode cL_would 471 = .ok (.iload 21, 2) := by decide +kernel
theorem dL_would_473 : decode cL_would 473 = .ok (.istore 18, 2) := by decide +kernel
theorem dL_would_475 : decode cL_would 475 = .ok (.iinc 20 1, 3) := by decide +kernel
theorem dL_would_478 : decode cL_would 478 = .ok (.goto (-108), 3) := by decide +kernel
theorem dL_would_481 : decode cL_would 481 = .ok (.aload_n 0, 1) := by decide +kernel
theorem dL_would_482 : decode cL_would 482 = .ok (.iload 12, 2) := by decide +kernel
theorem dL_would_484 : decode cL_would 484 = .ok (.iload 17, 2) := by decide +kernel
theorem dL_would_486 : decode cL_would 486 = .ok (.invokevirtual 70, 3) := by decide +kernel
theorem dL_would_489 : decode cL_would 489 = .ok (.iload 19, 2) := by decide +kernel
theorem dL_would_491 : decode cL_would 491 = .ok (.if_icmp .ne 7, 3) := by decide +kernel
theorem dL_would_494 : decode cL_would 494 = .ok (.iconst 1, 1) := by decide +kernel
theorem dL_would_495 : decode cL_would 495 = .ok (.goto 4, 3) := by decide +kernel
theorem dL_would_498 : decode cL_would 498 = .ok (.iconst 0, 1) := by decide +kernel
theorem dL_would_499 : decode cL_would 499 = .ok (.ireturn, 1) := by decide +kernel
theorem dL_law_0 : decode cL_law 0 = .ok (.new 30, 3) := by decide +kernel
theorem dL_law_3 : decode cL_law 3 = .ok (.dup, 1) := by decide +kernel
theorem dL_law_4 : decode cL_law 4 = .ok (.invokespecial 73, 3) := by decide +kernel
theorem dL_law_7 : decode cL_law 7 = .ok (.astore_n 1, 1) := by decide +kernel
theorem dL_law_8 : decode cL_law 8 = .ok (.bipush 11, 2) := by decide +kernel
theorem dL_law_10 : decode cL_law 10 = .ok (.newarray .int, 2) := by decide +kernel
theorem dL_law_12 : decode cL_law 12 = .ok (.astore_n 2, 1) := by decide +kernel
theorem dL_law_13 : decode cL_law 13 = .ok (.bipush 24, 2) := by decide +kernel
theorem dL_law_15 : decode cL_law 15 = .ok (.newarray .int, 2) := by decide +kernel
theorem dL_law_17 : decode cL_law 17 = .ok (.astore_n 3, 1) := by decide +kernel
theorem dL_law_18 : decode cL_law 18 = .ok (.bipush 40, 2) := by decide +kernel
theorem dL_law_20 : decode cL_law 20 = .ok (.newarray .int, 2) := by decide +kernel
theorem dL_law_22 : decode cL_law 22 = .ok (.astore 4, 2) := by decide +kernel
theorem dL_law_24 : decode cL_law 24 = .ok (.bipush 16, 2) := by decide +kernel
theorem dL_law_26 : decode cL_law 26 = .ok (.newarray .int, 2) := by decide +kernel
theorem dL_law_28 : decode cL_law 28 = .ok (.astore 5, 2) := by decide +kernel
theorem dL_law_30 : decode cL_law 30 = .ok (.bipush 16, 2) := by decide +kernel
theorem dL_law_32 : decode cL_law 32 = .ok (.newarray .int, 2) := by decide +kernel
theorem dL_law_34 : decode cL_law 34 = .ok (.astore 6, 2) := by decide +kernel
theorem dL_law_36 : decode cL_law 36 = .ok (.bipush 11, 2) := by decide +kernel
theorem dL_law_38 : decode cL_law 38 = .ok (.newarray .int, 2) := by decide +kernel
theorem dL_law_40 : decode cL_law 40 = .ok (.astore 7, 2) := by decide +kernel
theorem dL_law_42 : decode cL_law 42 = .ok (.bipush 24, 2) := by decide +kernel
theorem dL_law_44 : decode cL_law 44 = .ok (.newarray .int, 2) := by decide +kernel
theorem dL_law_46 : decode cL_law 46 = .ok (.astore 8, 2) := by decide +kernel
theorem dL_law_48 : decode cL_law 48 = .ok (.bipush 40, 2) := by decide +kernel
theorem dL_law_50 : decode cL_law 50 = .ok (.newarray .int, 2) := by decide +kernel
theorem dL_law_52 : decode cL_law 52 = .ok (.astore 9, 2) := by decide +kernel
theorem dL_law_54 : decode cL_law 54 = .ok (.bipush 16, 2) := by decide +kernel
theorem dL_law_56 : decode cL_law 56 = .ok (.newarray .int, 2) := by decide +kernel
theorem dL_law_58 : decode cL_law 58 = .ok (.astore 10, 2) := by decide +kernel
theorem dL_law_60 : decode cL_law 60 = .ok (.bipush 16, 2) := by decide +kernel
theorem dL_law_62 : decode cL_law 62 = .ok (.newarray .int, 2) := by decide +kernel
theorem dL_law_64 : decode cL_law 64 = .ok (.astore 11, 2) := by decide +kernel
theorem dL_law_66 : decode cL_law 66 = .ok (.aload_n 2, 1) := by decide +kernel
theorem dL_law_67 : decode cL_law 67 = .ok (.iconst 0, 1) := by decide +kernel
theorem dL_law_68 : decode cL_law 68 = .ok (.bipush 20, 2) := by decide +kernel
theorem dL_law_70 : decode cL_law 70 = .ok (.iastore, 1) := by decide +kernel
theorem dL_law_71 : decode cL_law 71 = .ok (.aload_n 2, 1) := by decide +kernel
theorem dL_law_72 : decode cL_law 72 = .ok (.iconst 1, 1) := by decide +kernel
theorem dL_law_73 : decode cL_law 73 = .ok (.bipush 15, 2) := by decide +kernel
theorem dL_law_75 : decode cL_law 75 = .ok (.iastore, 1) := by decide +kernel
theorem dL_law_76 : decode cL_law 76 = .ok (.aload_n 2, 1) := by decide +kernel
theorem dL_law_77 : decode cL_law 77 = .ok (.iconst 2, 1) := by decide +kernel
theorem dL_law_78 : decode cL_law 78 = .ok (.bipush 6, 2) := by decide +kernel
theorem dL_law_80 : decode cL_law 80 = .ok (.iastore, 1) := by decide +kernel
theorem dL_law_81 : decode cL_law 81 = .ok (.aload_n 2, 1) := by decide +kernel
theorem dL_law_82 : decode cL_law 82 = .ok (.iconst 3, 1) := by decide +kernel
theorem dL_law_83 : decode cL_law 83 = .ok (.iconst 3, 1) := by decide +kernel
theorem dL_law_84 : decode cL_law 84 = .ok (.iastore, 1) := by decide +kernel
theorem dL_law_85 : decode cL_law 85 = .ok (.aload_n 2, 1) := by decide +kernel
theorem dL_law_86 : decode cL_law 86 = .ok (.iconst 4, 1) := by decide +kernel
theorem dL_law_87 : decode cL_law 87 = .ok (.iconst 4, 1) := by decide +kernel
theorem dL_law_88 : decode cL_law 88 = .ok (.iastore, 1) := by decide +kernel
theorem dL_law_89 : decode cL_law 89 = .ok (.aload_n 2, 1) := by decide +kernel
theorem dL_law_90 : decode cL_law 90 = .ok (.bipush 8, 2) := by decide +kernel
theorem dL_law_92 : decode cL_law 92 = .ok (.iconst 1, 1) := by decide +kernel
theorem dL_law_93 : decode cL_law 93 = .ok (.iastore, 1) := by decide +kernel
theorem dL_law_94 : decode cL_law 94 = .ok (.iconst 0, 1) := by decide +kernel
theorem dL_law_95 : decode cL_law 95 = .ok (.istore 12, 2) := by decide +kernel
theorem dL_law_97 : decode cL_law 97 = .ok (.iload 12, 2) := by decide +kernel
theorem dL_law_99 : decode cL_law 99 = .ok (.bipush 40, 2) := by decide +kernel
theorem dL_law_101 : decode cL_law 101 = .ok (.if_icmp .ge 16, 3) := by decide +kernel
theorem dL_law_104 : decode cL_law 104 = .ok (.aload 4, 2) := by decide +kernel
theorem dL_law_106 : decode cL_law 106 = .ok (.iload 12, 2) := by decide +kernel
theorem dL_law_108 : decode cL_law 108 = .ok (.bipush (-6), 2) := by decide +kernel
theorem dL_law_110 : decode cL_law 110 = .ok (.iastore, 1) := by decide +kernel
theorem dL_law_111 : decode cL_law 111 = .ok (.iinc 12 1, 3) := by decide +kernel
theorem dL_law_114 : decode cL_law 114 = .ok (.goto (-17), 3) := by decide +kernel
theorem dL_law_117 : decode cL_law 117 = .ok (.iconst 0, 1) := by decide +kernel
theorem dL_law_118 : decode cL_law 118 = .ok (.istore 12, 2) := by decide +kernel
theorem dL_law_120 : decode cL_law 120 = .ok (.iload 12, 2) := by decide +kernel
theorem dL_law_122 : decode cL_law 122 = .ok (.bipush 24, 2) := by decide +kernel
theorem dL_law_124 : decode cL_law 124 = .ok (.if_icmp .ge 473, 3) := by decide +kernel
theorem dL_law_127 : decode cL_law 127 = .ok (.aload_n 0, 1) := by decide +kernel
theorem dL_law_128 : decode cL_law 128 = .ok (.iconst 2, 1) := by decide +kernel
theorem dL_law_129 : decode cL_law 129 = .ok (.iload 12, 2) := by decide +kernel
theorem dL_law_131 : decode cL_law 131 = .ok (.imul, 1) := by decide +kernel
theorem dL_law_132 : decode cL_law 132 = .ok (.invokestatic 74, 3) := by decide +kernel
theorem dL_law_135 : decode cL_law 135 = .ok (.istore 13, 2) := by decide +kernel
theorem dL_law_137 : decode cL_law 137 = .ok (.aload_n 0, 1) := by decide +kernel
theorem dL_law_138 : decode cL_law 138 = .ok (.iconst 2, 1) := by decide +kernel
theorem dL_law_139 : decode cL_law 139 = .ok (.iload 12, 2) := by decide +kernel
theorem dL_law_141 : decode cL_law 141 = .ok (.imul, 1) := by decide +kernel
theorem dL_law_142 : decode cL_law 142 = .ok (.iconst 1, 1) := by decide +kernel
theorem dL_law_143 : decode cL_law 143 = .ok (.iadd, 1) := by decide +kernel
theorem dL_law_144 : decode cL_law 144 = .ok (.invokestatic 74, 3) := by decide +kernel
theorem dL_law_147 : decode cL_law 147 = .ok (.istore 14, 2) := by decide +kernel
theorem dL_law_149 : decode cL_law 149 = .ok (.iload 12, 2) := by decide +kernel
theorem dL_law_151 : decode cL_law 151 = .ok (.iconst 2, 1) := by decide +kernel
theorem dL_law_152 : decode cL_law 152 = .ok (.if_icmp .ge 7, 3) := by decide +kernel
theorem dL_law_155 : decode cL_law 155 = .ok (.iconst 0, 1) := by decide +kernel
theorem dL_law_156 : decode cL_law 156 = .ok (.goto 10, 3) := by decide +kernel
theorem dL_law_159 : decode cL_law 159 = .ok (.iload 13, 2) := by decide +kernel
theorem dL_law_161 : decode cL_law 161 = .ok (.bipush 12, 2) := by decide +kernel
theorem dL_law_163 : decode cL_law 163 = .ok (.invokestatic 49, 3) := by decide +kernel
theorem dL_law_166 : decode cL_law 166 = .ok (.istore 15, 2) := by decide +kernel
theorem dL_law_168 : decode cL_law 168 = .ok (.iload 15, 2) := by decide +kernel
theorem dL_law_170 : decode cL_law 170 = .ok (.ifCond .ne 71, 3) := by decide +kernel
theorem dL_law_173 : decode cL_law 173 = .ok (.aload_n 2, 1) := by decide +kernel
theorem dL_law_174 : decode cL_law 174 = .ok (.bipush 6, 2) := by decide +kernel
theorem dL_law_176 : decode cL_law 176 = .ok (.iaload, 1) := by decide +kernel
theorem dL_law_177 : decode cL_law 177 = .ok (.iconst 4, 1) := by decide +kernel
theorem dL_law_178 : decode cL_law 178 = .ok (.if_icmp .ge 63, 3) := by decide +kernel
theorem dL_law_181 : decode cL_law 181 = .ok (.iload 14, 2) := by decide +kernel
theorem dL_law_183 : decode cL_law 183 = .ok (.iload 13, 2) := by decide +kernel
theorem dL_law_185 : decode cL_law 185 = .ok (.iconst 4, 1) := by decide +kernel
theorem dL_law_186 : decode cL_law 186 = .ok (.ishr, 1) := by decide +kernel
theorem dL_law_187 : decode cL_law 187 = .ok (.iconst 3, 1) := by decide +kernel
theorem dL_law_188 : decode cL_law 188 = .ok (.invokestatic 49, 3) := by decide +kernel
theorem dL_law_191 : decode cL_law 191 = .ok (.ifCond .ne 9, 3) := by decide +kernel
theorem dL_law_194 : decode cL_law 194 = .ok (.sipush 500, 3) := by decide +kernel
theorem dL_law_197 : decode cL_law 197 = .ok (.goto 5, 3) := by decide +kernel
theorem dL_law_200 : decode cL_law 200 = .ok (.bipush 60, 2) := by decide +kernel
theorem dL_law_202 : decode cL_law 202 = .ok (.invokestatic 49, 3) := by decide +kernel
theorem dL_law_205 : decode cL_law 205 = .ok (.istore 16, 2) := by decide +kernel
theorem dL_law_207 : decode cL_law 207 = .ok (.aload_n 3, 1) := by decide +kernel
theorem dL_law_208 : decode cL_law 208 = .ok (.bipush 6, 2) := by decide +kernel
theorem dL_law_210 : decode cL_law 210 = .ok (.aload_n 2, 1) := by decide +kernel
theorem dL_law_211 : decode cL_law 211 = .ok (.bipush 6, 2) := by decide +kernel
theorem dL_law_213 : decode cL_law 213 = .ok (.iaload, 1) := by decide +kernel
theorem dL_law_214 : decode cL_law 214 = .ok (.imul, 1) := by decide +kernel
theorem dL_law_215 : decode cL_law 215 = .ok (.iload 16, 2) := by decide +kernel
theorem dL_law_217 : decode cL_law 217 = .ok (.iastore, 1) := by decide +kernel
theorem dL_law_218 : decode cL_law 218 = .ok (.aload_n 1, 1) := by decide +kernel
theorem dL_law_219 : decode cL_law 219 = .ok (.iload 16, 2) := by decide +kernel
theorem dL_law_221 : decode cL_law 221 = .ok (.invokevirtual 78, 3) := by decide +kernel
theorem dL_law_224 : decode cL_law 224 = .ok (.aload_n 2, 1) := by decide +kernel
theorem dL_law_225 : decode cL_law 225 = .ok (.bipush 6, 2) := by decide +kernel
theorem dL_law_227 : decode cL_law 227 = .ok (.dup2, 1) := by decide +kernel
theorem dL_law_228 : decode cL_law 228 = .ok (.iaload, 1) := by decide +kernel
theorem dL_law_229 : decode cL_law 229 = .ok (.dup_x2, 1) := by decide +kernel
theorem dL_law_230 : decode cL_law 230 = .ok (.iconst 1, 1) := by decide +kernel
theorem dL_law_231 : decode cL_law 231 = .ok (.iadd, 1) := by decide +kernel
theorem dL_law_232 : decode cL_law 232 = .ok (.iastore, 1) := by decide +kernel
theorem dL_law_233 : decode cL_law 233 = .ok (.if_icmp .eq 5, 3) := by decide +kernel
theorem dL_law_236 : decode cL_law 236 = .ok (.iconst 0, 1) := by decide +kernel
theorem dL_law_237 : decode cL_law 237 = .ok (.ireturn, 1) := by decide +kernel
theorem dL_law_238 : decode cL_law 238 = .ok (.goto 295, 3) := by decide +kernel
theorem dL_law_241 : decode cL_law 241 = .ok (.iload 15, 2) := by decide +kernel
theorem dL_law_243 : decode cL_law 243 = .ok (.bipush 8, 2) := by decide +kernel
theorem dL_law_245 : decode cL_law 245 = .ok (.if_icmp .ge 84, 3) := by decide +kernel
theorem dL_law_248 : decode cL_law 248 = .ok (.iconst 1, 1) := by decide +kernel
theorem dL_law_249 : decode cL_law 249 = .ok (.iload 14, 2) := by decide +kernel
theorem dL_law_251 : decode cL_law 251 = .ok (.iload 13, 2) := by decide +kernel
theorem dL_law_253 : decode cL_law 253 = .ok (.iconst 4, 1) := by decide +kernel
theorem dL_law_254 : decode cL_law 254 = .ok (.ishr, 1) := by decide +kernel
theorem dL_law_255 : decode cL_law 255 = .ok (.iconst 3, 1) := by decide +kernel
theorem dL_law_256 : decode cL_law 256 = .ok (.invokestatic 49, 3) := by decide +kernel
theorem dL_law_259 : decode cL_law 259 = .ok (.ifCond .ne 8, 3) := by decide +kernel
theorem dL_law_262 : decode cL_law 262 = .ok (.bipush 99, 2) := by decide +kernel
theorem dL_law_264 : decode cL_law 264 = .ok (.goto 5, 3) := by decide +kernel
theorem dL_law_267 : decode cL_law 267 = .ok (.bipush 20, 2) := by decide +kernel
theorem dL_law_269 : decode cL_law 269 = .ok (.invokestatic 49, 3) := by decide +kernel
theorem dL_law_272 : decode cL_law 272 = .ok (.iadd, 1) := by decide +kernel
theorem dL_law_273 : decode cL_law 273 = .ok (.istore 16, 2) := by decide +kernel
theorem dL_law_275 : decode cL_law 275 = .ok (.aload_n 3, 1) := by decide +kernel
theorem dL_law_276 : decode cL_law 276 = .ok (.invokestatic 81, 3) := by decide +kernel
theorem dL_law_279 : decode cL_law 279 = .ok (.istore 17, 2) := by decide +kernel
theorem dL_law_281 : decode cL_law 281 = .ok (.iconst 0, 1) := by decide +kernel
theorem dL_law_282 : decode cL_law 282 = .ok (.istore 18, 2) := by decide +kernel
theorem dL_law_284 : decode cL_law 284 = .ok (.iload 18, 2) := by decide +kernel
theorem dL_law_286 : decode cL_law 286 = .ok (.iload 16, 2) := by decide +kernel
theorem dL_law_288 : decode cL_law 288 = .ok (.if_icmp .ge 20, 3) := by decide +kernel
theorem dL_law_291 : decode cL_law 291 = .ok (.aload_n 2, 1) := by decide +kernel
theorem dL_law_292 : decode cL_law 292 = .ok (.aload_n 3, 1) := by decide +kernel
theorem dL_law_293 : decode cL_law 293 = .ok (.aload 4, 2) := by decide +kernel
theorem dL_law_295 : decode cL_law 295 = .ok (.aload 5, 2) := by decide +kernel
theorem dL_law_297 : decode cL_law 297 = .ok (.aload 6, 2) := by decide +kernel
theorem dL_law_299 : decode cL_law 299 = .ok (.invokestatic 56, 3) := by decide +kernel
theorem dL_law_302 : decode cL_law 302 = .ok (.iinc 18 1, 3) := by decide +kernel
theorem dL_law_305 : decode cL_law 305 = .ok (.goto (-21), 3) := by decide +kernel
theorem dL_law_308 : decode cL_law 308 = .ok (.aload_n 1, 1) := by decide +kernel
theorem dL_law_309 : decode cL_law 309 = .ok (.iload 16, 2) := by decide +kernel
theorem dL_law_311 : decode cL_law 311 = .ok (.invokevirtual 84, 3) := by decide +kernel
theorem dL_law_314 : decode cL_law 314 = .ok (.aload_n 3, 1) := by decide +kernel
theorem dL_law_315 : decode cL_law 315 = .ok (.invokestatic 81, 3) := by decide +kernel
theorem dL_law_318 : decode cL_law 318 = .ok (.iload 17, 2) := by decide +kernel
theorem dL_law_320 : decode cL_law 320 = .ok (.isub, 1) := by decide +kernel
theorem dL_law_321 : decode cL_law 321 = .ok (.if_icmp .eq 5, 3) := by decide +kernel
theorem dL_law_324 : decode cL_law 324 = .ok (.iconst 0, 1) := by decide +kernel
theorem dL_law_325 : decode cL_law 325 = .ok (.ireturn, 1) := by decide +kernel
theorem dL_law_326 : decode cL_law 326 = .ok (.goto 207, 3) := by decide +kernel
theorem dL_law_329 : decode cL_law 329 = .ok (.iload 15, 2) := by decide +kernel
theorem dL_law_331 : decode cL_law 331 = .ok (.bipush 8, 2) := by decide +kernel
theorem dL_law_333 : decode cL_law 333 = .ok (.if_icmp .ne 37, 3) := by decide +kernel
theorem dL_law_336 : decode cL_law 336 = .ok (.iload 14, 2) := by decide +kernel
theorem dL_law_338 : decode cL_law 338 = .ok (.sipush 10000, 3) := by decide +kernel
theorem dL_law_341 : decode cL_law 341 = .ok (.invokestatic 49, 3) := by decide +kernel
theorem dL_law_344 : decode cL_law 344 = .ok (.istore 16, 2) := by decide +kernel
theorem dL_law_346 : decode cL_law 346 = .ok (.aload_n 1, 1) := by decide +kernel
theorem dL_law_347 : decode cL_law 347 = .ok (.iload 16, 2) := by decide +kernel
theorem dL_law_349 : decode cL_law 349 = .ok (.invokevirtual 87, 3) := by decide +kernel
theorem dL_law_352 : decode cL_law 352 = .ok (.aload_n 2, 1) := by decide +kernel
theorem dL_law_353 : decode cL_law 353 = .ok (.bipush 8, 2) := by decide +kernel
theorem dL_law_355 : decode cL_law 355 = .ok (.iaload, 1) := by decide +kernel
theorem dL_law_356 : decode cL_law 356 = .ok (.if_icmp .eq 5, 3) := by decide +kernel
theorem dL_law_359 : decode cL_law 359 = .ok (.iconst 0, 1) := by decide +kernel
theorem dL_law_360 : decode cL_law 360 = .ok (.ireturn, 1) := by decide +kernel
theorem dL_law_361 : decode cL_law 361 = .ok (.aload_n 2, 1) := by decide +kernel
theorem dL_law_362 : decode cL_law 362 = .ok (.bipush 8, 2) := by decide +kernel
theorem dL_law_364 : decode cL_law 364 = .ok (.iload 16, 2) := by decide +kernel
theorem dL_law_366 : decode cL_law 366 = .ok (.iastore, 1) := by decide +kernel
theorem dL_law_367 : decode cL_law 367 = .ok (.goto 166, 3) := by decide +kernel
theorem dL_law_370 : decode cL_law 370 = .ok (.iload 15, 2) := by decide +kernel
theorem dL_law_372 : decode cL_law 372 = .ok (.bipush 9, 2) := by decide +kernel
theorem dL_law_374 : decode cL_law 374 = .ok (.if_icmp .ne 38, 3) := by decide +kernel
theorem dL_law_377 : decode cL_law 377 = .ok (.iload 14, 2) := by decide +kernel
theorem dL_law_379 : decode cL_law 379 = .ok (.aload_n 2, 1) := by decide +kernel
theorem dL_law_380 : decode cL_law 380 = .ok (.bipush 6, 2) := by decide +kernel
theorem dL_law_382 : decode cL_law 382 = .ok (.iaload, 1) := by decide +kernel
theorem dL_law_383 : decode cL_law 383 = .ok (.invokestatic 49, 3) := by decide +kernel
theorem dL_law_386 : decode cL_law 386 = .ok (.istore 16, 2) := by decide +kernel
theorem dL_law_388 : decode cL_law 388 = .ok (.aload_n 1, 1) := by decide +kernel
theorem dL_law_389 : decode cL_law 389 = .ok (.iload 16, 2) := by decide +kernel
theorem dL_law_391 : decode cL_law 391 = .ok (.invokevirtual 90, 3) := by decide +kernel
theorem dL_law_394 : decode cL_law 394 = .ok (.iload 16, 2) := by decide +kernel
theorem dL_law_396 : decode cL_law 396 = .ok (.aload_n 2, 1) := by decide +kernel
theorem dL_law_397 : decode cL_law 397 = .ok (.aload 5, 2) := by decide +kernel
theorem dL_law_399 : decode cL_law 399 = .ok (.aload 6, 2) := by decide +kernel
theorem dL_law_401 : decode cL_law 401 = .ok (.invokestatic 93, 3) := by decide +kernel
theorem dL_law_404 : decode cL_law 404 = .ok (.if_icmp .eq 5, 3) := by decide +kernel
theorem dL_law_407 : decode cL_law 407 = .ok (.iconst 0, 1) := by decide +kernel
theorem dL_law_408 : decode cL_law 408 = .ok (.ireturn, 1) := by decide +kernel
theorem dL_law_409 : decode cL_law 409 = .ok (.goto 124, 3) := by decide +kernel
theorem dL_law_412 : decode cL_law 412 = .ok (.iload 14, 2) := by decide +kernel
theorem dL_law_414 : decode cL_law 414 = .ok (.iconst 5, 1) := by decide +kernel
theorem dL_law_415 : decode cL_law 415 = .ok (.invokestatic 49, 3) := by decide +kernel
theorem dL_law_418 : decode cL_law 418 = .ok (.istore 16, 2) := by decide +kernel
theorem dL_law_420 : decode cL_law 420 = .ok (.iload 16, 2) := by decide +kernel
theorem dL_law_422 : decode cL_law 422 = .ok (.ifCond .ne 15, 3) := by decide +kernel
theorem dL_law_425 : decode cL_law 425 = .ok (.iload 14, 2) := by decide +kernel
theorem dL_law_427 : decode cL_law 427 = .ok (.iconst 3, 1) := by decide +kernel
theorem dL_law_428 : decode cL_law 428 = .ok (.ishr, 1) := by decide +kernel
theorem dL_law_429 : decode cL_law 429 = .ok (.bipush 100, 2) := by decide +kernel
theorem dL_law_431 : decode cL_law 431 = .ok (.invokestatic 49, 3) := by decide +kernel
theorem dL_law_434 : decode cL_law 434 = .ok (.goto 74, 3) := by decide +kernel
theorem dL_law_437 : decode cL_law 437 = .ok (.iload 16, 2) := by decide +kernel
theorem dL_law_439 : decode cL_law 439 = .ok (.iconst 1, 1) := by decide +kernel
theorem dL_law_440 : decode cL_law 440 = .ok (.if_icmp .ne 17, 3) := by decide +kernel
theorem dL_law_443 : decode cL_law 443 = .ok (.iconst 1, 1) := by decide +kernel
theorem dL_law_444 : decode cL_law 444 = .ok (.iload 14, 2) := by decide +kernel
theorem dL_law_446 : decode cL_law 446 = .ok (.iconst 3, 1) := by decide +kernel
theorem dL_law_447 : decode cL_law 447 = .ok (.ishr, 1) := by decide +kernel
theorem dL_law_448 : decode cL_law 448 = .ok (.bipush 99, 2) := by decide +kernel
theorem dL_law_450 : decode cL_law 450 = .ok (.invokestatic 49, 3) := by decide +kernel
theorem dL_law_453 : decode cL_law 453 = .ok (.iadd, 1) := by decide +kernel
theorem dL_law_454 : decode cL_law 454 = .ok (.goto 54, 3) := by decide +kernel
theorem dL_law_457 : decode cL_law 457 = .ok (.iload 16, 2) := by decide +kernel
theorem dL_law_459 : decode cL_law 459 = .ok (.iconst 2, 1) := by decide +kernel
theorem dL_law_460 : decode cL_law 460 = .ok (.if_icmp .ne 17, 3) := by decide +kernel
theorem dL_law_463 : decode cL_law 463 = .ok (.iconst 1, 1) := by decide +kernel
theorem dL_law_464 : decode cL_law 464 = .ok (.iload 14, 2) := by decide +kernel
theorem dL_law_466 : decode cL_law 466 = .ok (.iconst 3, 1) := by decide +kernel
theorem dL_law_467 : decode cL_law 467 = .ok (.ishr, 1) := by decide +kernel
theorem dL_law_468 : decode cL_law 468 = .ok (.bipush 99, 2) := by decide +kernel
theorem dL_law_470 : decode cL_law 470 = .ok (.invokestatic 49, 3) := by decide +kernel
theorem dL_law_473 : decode cL_law 473 = .ok (.iadd, 1) := by decide +kernel
theorem dL_law_474 : decode cL_law 474 = .ok (.goto 34, 3) := by decide +kernel
theorem dL_law_477 : decode cL_law 477 = .ok (.iload 16, 2) := by decide +kernel
theorem dL_law_479 : decode cL_law 479 = .ok (.iconst 3, 1) := by decide +kernel
theorem dL_law_480 : decode cL_law 480 = .ok (.if_icmp .ne 17, 3) := by decide +kernel
theorem dL_law_483 : decode cL_law 483 = .ok (.iconst 1, 1) := by decide +kernel
theorem dL_law_484 : decode cL_law 484 = .ok (.iload 14, 2) := by decide +kernel
theorem dL_law_486 : decode cL_law 486 = .ok (.iconst 3, 1) := by decide +kernel
theorem dL_law_487 : decode cL_law 487 = .ok (.ishr, 1) := by decide +kernel
theorem dL_law_488 : decode cL_law 488 = .ok (.bipush 7, 2) := by decide +kernel
theorem dL_law_490 : decode cL_law 490 = .ok (.invokestatic 49, 3) := by decide +kernel
theorem dL_law_493 : decode cL_law 493 = .ok (.iadd, 1) := by decide +kernel
theorem dL_law_494 : decode cL_law 494 = .ok (.goto 14, 3) := by decide +kernel
theorem dL_law_497 : decode cL_law 497 = .ok (.iconst 1, 1) := by decide +kernel
theorem dL_law_498 : decode cL_law 498 = .ok (.iload 14, 2) := by decide +kernel
theorem dL_law_500 : decode cL_law 500 = .ok (.iconst 3, 1) := by decide +kernel
theorem dL_law_501 : decode cL_law 501 = .ok (.ishr, 1) := by decide +kernel
theorem dL_law_502 : decode cL_law 502 = .ok (.bipush 20, 2) := by decide +kernel
theorem dL_law_504 : decode cL_law 504 = .ok (.invokestatic 49, 3) := by decide +kernel
theorem dL_law_507 : decode cL_law 507 = .ok (.iadd, 1) := by decide +kernel
theorem dL_law_508 : decode cL_law 508 = .ok (.istore 17, 2) := by decide +kernel
theorem dL_law_510 : decode cL_law 510 = .ok (.aload_n 1, 1) := by decide +kernel
theorem dL_law_511 : decode cL_law 511 = .ok (.iload 16, 2) := by decide +kernel
theorem dL_law_513 : decode cL_law 513 = .ok (.iload 17, 2) := by decide +kernel
theorem dL_law_515 : decode cL_law 515 = .ok (.invokevirtual 96, 3) := by decide +kernel
theorem dL_law_518 : decode cL_law 518 = .ok (.aload_n 2, 1) := by decide +kernel
theorem dL_law_519 : decode cL_law 519 = .ok (.iload 16, 2) := by decide +kernel
theorem dL_law_521 : decode cL_law 521 = .ok (.iaload, 1) := by decide +kernel
theorem dL_law_522 : decode cL_law 522 = .ok (.if_icmp .eq 5, 3) := by decide +kernel
theorem dL_law_525 : decode cL_law 525 = .ok (.iconst 0, 1) := by decide +kernel
theorem dL_law_526 : decode cL_law 526 = .ok (.ireturn, 1) := by decide +kernel
theorem dL_law_527 : decode cL_law 527 = .ok (.aload_n 2, 1) := by decide +kernel
theorem dL_law_528 : decode cL_law 528 = .ok (.iload 16, 2) := by decide +kernel
theorem dL_law_530 : decode cL_law 530 = .ok (.iload 17, 2) := by decide +kernel
theorem dL_law_532 : decode cL_law 532 = .ok (.iastore, 1) := by decide +kernel
theorem dL_law_533 : decode cL_law 533 = .ok (.aload_n 1, 1) := by decide +kernel
theorem dL_law_534 : decode cL_law 534 = .ok (.aload_n 2, 1) := by decide +kernel
theorem dL_law_535 : decode cL_law 535 = .ok (.aload_n 3, 1) := by decide +kernel
theorem dL_law_536 : decode cL_law 536 = .ok (.aload 4, 2) := by decide +kernel
theorem dL_law_538 : decode cL_law 538 = .ok (.aload 5, 2) := by decide +kernel
theorem dL_law_540 : decode cL_law 540 = .ok (.aload 6, 2) := by decide +kernel
theorem dL_law_542 : decode cL_law 542 = .ok (.invokestatic 99, 3) := by decide +kernel
theorem dL_law_545 : decode cL_law 545 = .ok (.ifCond .eq 44, 3) := by decide +kernel
theorem dL_law_548 : decode cL_law 548 = .ok (.iload 14, 2) := by decide +kernel
theorem dL_law_550 : decode cL_law 550 = .ok (.bipush 9, 2) := by decide +kernel
theorem dL_law_552 : decode cL_law 552 = .ok (.ishr, 1) := by decide +kernel
theorem dL_law_553 : decode cL_law 553 = .ok (.iconst 5, 1) := by decide +kernel
theorem dL_law_554 : decode cL_law 554 = .ok (.invokestatic 49, 3) := by decide +kernel
theorem dL_law_557 : decode cL_law 557 = .ok (.ifCond .ne 34, 3) := by decide +kernel
theorem dL_law_560 : decode cL_law 560 = .ok (.aload_n 1, 1) := by decide +kernel
theorem dL_law_561 : decode cL_law 561 = .ok (.iload 13, 2) := by decide +kernel
theorem dL_law_563 : decode cL_law 563 = .ok (.iconst 2, 1) := by decide +kernel
theorem dL_law_564 : decode cL_law 564 = .ok (.ishr, 1) := by decide +kernel
theorem dL_law_565 : decode cL_law 565 = .ok (.aload_n 2, 1) := by decide +kernel
theorem dL_law_566 : decode cL_law 566 = .ok (.aload_n 3, 1) := by decide +kernel
theorem dL_law_567 : decode cL_law 567 = .ok (.aload 4, 2) := by decide +kernel
theorem dL_law_569 : decode cL_law 569 = .ok (.aload 5, 2) := by decide +kernel
theorem dL_law_571 : decode cL_law 571 = .ok (.aload 6, 2) := by decide +kernel
theorem dL_law_573 : decode cL_law 573 = .ok (.aload 7, 2) := by decide +kernel
theorem dL_law_575 : decode cL_law 575 = .ok (.aload 8, 2) := by decide +kernel
theorem dL_law_577 : decode cL_law 577 = .ok (.aload 9, 2) := by decide +kernel
theorem dL_law_579 : decode cL_law 579 = .ok (.aload 10, 2) := by decide +kernel
theorem dL_law_581 : decode cL_law 581 = .ok (.aload 11, 2) := by decide +kernel
theorem dL_law_583 : decode cL_law 583 = .ok (.invokestatic 103, 3) := by decide +kernel
theorem dL_law_586 : decode cL_law 586 = .ok (.ifCond .ne 5, 3) := by decide +kernel
theorem dL_law_589 : decode cL_law 589 = .ok (.iconst 0, 1) := by decide +kernel
theorem dL_law_590 : decode cL_law 590 = .ok (.ireturn, 1) := by decide +kernel
theorem dL_law_591 : decode cL_law 591 = .ok (.iinc 12 1, 3) := by decide +kernel
theorem dL_law_594 : decode cL_law 594 = .ok (.goto (-474), 3) := by decide +kernel
theorem dL_law_597 : decode cL_law 597 = .ok (.iconst 1, 1) := by decide +kernel
theorem dL_law_598 : decode cL_law 598 = .ok (.ireturn, 1) := by decide +kernel
