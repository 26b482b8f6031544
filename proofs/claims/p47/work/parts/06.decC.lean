theorem dL_law_0 : decode cL_law 0 = .ok (.new 15, 3) := by decide +kernel
theorem dL_law_3 : decode cL_law 3 = .ok (.dup, 1) := by decide +kernel
theorem dL_law_4 : decode cL_law 4 = .ok (.invokespecial 177, 3) := by decide +kernel
theorem dL_law_7 : decode cL_law 7 = .ok (.astore_n 1, 1) := by decide +kernel
theorem dL_law_8 : decode cL_law 8 = .ok (.bipush 70, 2) := by decide +kernel
theorem dL_law_10 : decode cL_law 10 = .ok (.newarray .long, 2) := by decide +kernel
theorem dL_law_12 : decode cL_law 12 = .ok (.astore_n 2, 1) := by decide +kernel
theorem dL_law_13 : decode cL_law 13 = .ok (.iconst 0, 1) := by decide +kernel
theorem dL_law_14 : decode cL_law 14 = .ok (.istore_n 3, 1) := by decide +kernel
theorem dL_law_15 : decode cL_law 15 = .ok (.aload_n 2, 1) := by decide +kernel
theorem dL_law_16 : decode cL_law 16 = .ok (.iload_n 3, 1) := by decide +kernel
theorem dL_law_17 : decode cL_law 17 = .ok (.aload_n 1, 1) := by decide +kernel
theorem dL_law_18 : decode cL_law 18 = .ok (.invokestatic 178, 3) := by decide +kernel
theorem dL_law_21 : decode cL_law 21 = .ok (.lastore, 1) := by decide +kernel
theorem dL_law_22 : decode cL_law 22 = .ok (.iconst 0, 1) := by decide +kernel
theorem dL_law_23 : decode cL_law 23 = .ok (.istore 4, 2) := by decide +kernel
theorem dL_law_25 : decode cL_law 25 = .ok (.iconst 0, 1) := by decide +kernel
theorem dL_law_26 : decode cL_law 26 = .ok (.istore 5, 2) := by decide +kernel
theorem dL_law_28 : decode cL_law 28 = .ok (.iload 5, 2) := by decide +kernel
theorem dL_law_30 : decode cL_law 30 = .ok (.bipush 56, 2) := by decide +kernel
theorem dL_law_32 : decode cL_law 32 = .ok (.if_icmp .ge 671, 3) := by decide +kernel
theorem dL_law_35 : decode cL_law 35 = .ok (.aload_n 1, 1) := by decide +kernel
theorem dL_law_36 : decode cL_law 36 = .ok (.invokestatic 178, 3) := by decide +kernel
theorem dL_law_39 : decode cL_law 39 = .ok (.lstore 6, 2) := by decide +kernel
theorem dL_law_41 : decode cL_law 41 = .ok (.iload 5, 2) := by decide +kernel
theorem dL_law_43 : decode cL_law 43 = .ok (.bipush 6, 2) := by decide +kernel
theorem dL_law_45 : decode cL_law 45 = .ok (.if_icmp .ge 7, 3) := by decide +kernel
theorem dL_law_48 : decode cL_law 48 = .ok (.iconst 0, 1) := by decide +kernel
theorem dL_law_49 : decode cL_law 49 = .ok (.goto 11, 3) := by decide +kernel
theorem dL_law_52 : decode cL_law 52 = .ok (.aload_n 0, 1) := by decide +kernel
theorem dL_law_53 : decode cL_law 53 = .ok (.iload 4, 2) := by decide +kernel
theorem dL_law_55 : decode cL_law 55 = .ok (.bipush 40, 2) := by decide +kernel
theorem dL_law_57 : decode cL_law 57 = .ok (.invokestatic 182, 3) := by decide +kernel
theorem dL_law_60 : decode cL_law 60 = .ok (.istore 8, 2) := by decide +kernel
theorem dL_law_62 : decode cL_law 62 = .ok (.iload 5, 2) := by decide +kernel
theorem dL_law_64 : decode cL_law 64 = .ok (.bipush 13, 2) := by decide +kernel
theorem dL_law_66 : decode cL_law 66 = .ok (.irem, 1) := by decide +kernel
theorem dL_law_67 : decode cL_law 67 = .ok (.bipush 12, 2) := by decide +kernel
theorem dL_law_69 : decode cL_law 69 = .ok (.if_icmp .ne 7, 3) := by decide +kernel
theorem dL_law_72 : decode cL_law 72 = .ok (.iconst 4, 1) := by decide +kernel
theorem dL_law_73 : decode cL_law 73 = .ok (.goto 12, 3) := by decide +kernel
theorem dL_law_76 : decode cL_law 76 = .ok (.aload_n 0, 1) := by decide +kernel
theorem dL_law_77 : decode cL_law 77 = .ok (.iload 4, 2) := by decide +kernel
theorem dL_law_79 : decode cL_law 79 = .ok (.iconst 1, 1) := by decide +kernel
theorem dL_law_80 : decode cL_law 80 = .ok (.iadd, 1) := by decide +kernel
theorem dL_law_81 : decode cL_law 81 = .ok (.iconst 4, 1) := by decide +kernel
theorem dL_law_82 : decode cL_law 82 = .ok (.invokestatic 182, 3) := by decide +kernel
theorem dL_law_85 : decode cL_law 85 = .ok (.istore 9, 2) := by decide +kernel
theorem dL_law_87 : decode cL_law 87 = .ok (.iload 5, 2) := by decide +kernel
theorem dL_law_89 : decode cL_law 89 = .ok (.bipush 11, 2) := by decide +kernel
theorem dL_law_91 : decode cL_law 91 = .ok (.irem, 1) := by decide +kernel
theorem dL_law_92 : decode cL_law 92 = .ok (.bipush 10, 2) := by decide +kernel
theorem dL_law_94 : decode cL_law 94 = .ok (.if_icmp .ne 7, 3) := by decide +kernel
theorem dL_law_97 : decode cL_law 97 = .ok (.iconst 4, 1) := by decide +kernel
theorem dL_law_98 : decode cL_law 98 = .ok (.goto 12, 3) := by decide +kernel
theorem dL_law_101 : decode cL_law 101 = .ok (.aload_n 0, 1) := by decide +kernel
theorem dL_law_102 : decode cL_law 102 = .ok (.iload 4, 2) := by decide +kernel
theorem dL_law_104 : decode cL_law 104 = .ok (.iconst 2, 1) := by decide +kernel
theorem dL_law_105 : decode cL_law 105 = .ok (.iadd, 1) := by decide +kernel
theorem dL_law_106 : decode cL_law 106 = .ok (.iconst 4, 1) := by decide +kernel
theorem dL_law_107 : decode cL_law 107 = .ok (.invokestatic 182, 3) := by decide +kernel
theorem dL_law_110 : decode cL_law 110 = .ok (.istore 10, 2) := by decide +kernel
theorem dL_law_112 : decode cL_law 112 = .ok (.aload_n 1, 1) := by decide +kernel
theorem dL_law_113 : decode cL_law 113 = .ok (.iload 9, 2) := by decide +kernel
theorem dL_law_115 : decode cL_law 115 = .ok (.invokestatic 186, 3) := by decide +kernel
theorem dL_law_118 : decode cL_law 118 = .ok (.istore 11, 2) := by decide +kernel
theorem dL_law_120 : decode cL_law 120 = .ok (.aload_n 1, 1) := by decide +kernel
theorem dL_law_121 : decode cL_law 121 = .ok (.iload 10, 2) := by decide +kernel
theorem dL_law_123 : decode cL_law 123 = .ok (.invokestatic 186, 3) := by decide +kernel
theorem dL_law_126 : decode cL_law 126 = .ok (.istore 12, 2) := by decide +kernel
theorem dL_law_128 : decode cL_law 128 = .ok (.aload_n 1, 1) := by decide +kernel
theorem dL_law_129 : decode cL_law 129 = .ok (.iload 9, 2) := by decide +kernel
theorem dL_law_131 : decode cL_law 131 = .ok (.invokestatic 188, 3) := by decide +kernel
theorem dL_law_134 : decode cL_law 134 = .ok (.istore 13, 2) := by decide +kernel
theorem dL_law_136 : decode cL_law 136 = .ok (.aload_n 1, 1) := by decide +kernel
theorem dL_law_137 : decode cL_law 137 = .ok (.invokevirtual 190, 3) := by decide +kernel
theorem dL_law_140 : decode cL_law 140 = .ok (.lstore 14, 2) := by decide +kernel
theorem dL_law_142 : decode cL_law 142 = .ok (.aload_n 1, 1) := by decide +kernel
theorem dL_law_143 : decode cL_law 143 = .ok (.invokevirtual 194, 3) := by decide +kernel
theorem dL_law_146 : decode cL_law 146 = .ok (.istore 16, 2) := by decide +kernel
theorem dL_law_148 : decode cL_law 148 = .ok (.aload_n 1, 1) := by decide +kernel
theorem dL_law_149 : decode cL_law 149 = .ok (.invokevirtual 197, 3) := by decide +kernel
theorem dL_law_152 : decode cL_law 152 = .ok (.istore 17, 2) := by decide +kernel
theorem dL_law_154 : decode cL_law 154 = .ok (.aload_n 0, 1) := by decide +kernel
theorem dL_law_155 : decode cL_law 155 = .ok (.iload 4, 2) := by decide +kernel
theorem dL_law_157 : decode cL_law 157 = .ok (.iload 8, 2) := by decide +kernel
theorem dL_law_159 : decode cL_law 159 = .ok (.aload_n 1, 1) := by decide +kernel
theorem dL_law_160 : decode cL_law 160 = .ok (.iload 9, 2) := by decide +kernel
theorem dL_law_162 : decode cL_law 162 = .ok (.iload 10, 2) := by decide +kernel
theorem dL_law_164 : decode cL_law 164 = .ok (.iconst 0, 1) := by decide +kernel
theorem dL_law_165 : decode cL_law 165 = .ok (.iload 11, 2) := by decide +kernel
theorem dL_law_167 : decode cL_law 167 = .ok (.invokestatic 200, 3) := by decide +kernel
theorem dL_law_170 : decode cL_law 170 = .ok (.invokestatic 205, 3) := by decide +kernel
theorem dL_law_173 : decode cL_law 173 = .ok (.istore 18, 2) := by decide +kernel
theorem dL_law_175 : decode cL_law 175 = .ok (.iload 18, 2) := by decide +kernel
theorem dL_law_177 : decode cL_law 177 = .ok (.bipush (-70), 2) := by decide +kernel
theorem dL_law_179 : decode cL_law 179 = .ok (.if_icmp .le 7, 3) := by decide +kernel
theorem dL_law_182 : decode cL_law 182 = .ok (.iconst 1, 1) := by decide +kernel
theorem dL_law_183 : decode cL_law 183 = .ok (.goto 4, 3) := by decide +kernel
theorem dL_law_186 : decode cL_law 186 = .ok (.iconst 0, 1) := by decide +kernel
theorem dL_law_187 : decode cL_law 187 = .ok (.istore 19, 2) := by decide +kernel
theorem dL_law_189 : decode cL_law 189 = .ok (.aload_n 1, 1) := by decide +kernel
theorem dL_law_190 : decode cL_law 190 = .ok (.invokevirtual 194, 3) := by decide +kernel
theorem dL_law_193 : decode cL_law 193 = .ok (.iload 16, 2) := by decide +kernel
theorem dL_law_195 : decode cL_law 195 = .ok (.iload 19, 2) := by decide +kernel
theorem dL_law_197 : decode cL_law 197 = .ok (.ifCond .eq 21, 3) := by decide +kernel
theorem dL_law_200 : decode cL_law 200 = .ok (.iload 8, 2) := by decide +kernel
theorem dL_law_202 : decode cL_law 202 = .ok (.bipush 17, 2) := by decide +kernel
theorem dL_law_204 : decode cL_law 204 = .ok (.if_icmp .le 14, 3) := by decide +kernel
theorem dL_law_207 : decode cL_law 207 = .ok (.iload 8, 2) := by decide +kernel
theorem dL_law_209 : decode cL_law 209 = .ok (.bipush 23, 2) := by decide +kernel
theorem dL_law_211 : decode cL_law 211 = .ok (.if_icmp .ge 7, 3) := by decide +kernel
theorem dL_law_214 : decode cL_law 214 = .ok (.iconst 1, 1) := by decide +kernel
theorem dL_law_215 : decode cL_law 215 = .ok (.goto 4, 3) := by decide +kernel
theorem dL_law_218 : decode cL_law 218 = .ok (.iconst 0, 1) := by decide +kernel
theorem dL_law_219 : decode cL_law 219 = .ok (.iadd, 1) := by decide +kernel
theorem dL_law_220 : decode cL_law 220 = .ok (.if_icmp .ne 48, 3) := by decide +kernel
theorem dL_law_223 : decode cL_law 223 = .ok (.iload 8, 2) := by decide +kernel
theorem dL_law_225 : decode cL_law 225 = .ok (.bipush 38, 2) := by decide +kernel
theorem dL_law_227 : decode cL_law 227 = .ok (.if_icmp .gt 37, 3) := by decide +kernel
theorem dL_law_230 : decode cL_law 230 = .ok (.aload_n 1, 1) := by decide +kernel
theorem dL_law_231 : decode cL_law 231 = .ok (.invokevirtual 197, 3) := by decide +kernel
theorem dL_law_234 : decode cL_law 234 = .ok (.iload 17, 2) := by decide +kernel
theorem dL_law_236 : decode cL_law 236 = .ok (.iload 19, 2) := by decide +kernel
theorem dL_law_238 : decode cL_law 238 = .ok (.ifCond .eq 21, 3) := by decide +kernel
theorem dL_law_241 : decode cL_law 241 = .ok (.iload 8, 2) := by decide +kernel
theorem dL_law_243 : decode cL_law 243 = .ok (.bipush 22, 2) := by decide +kernel
theorem dL_law_245 : decode cL_law 245 = .ok (.if_icmp .le 14, 3) := by decide +kernel
theorem dL_law_248 : decode cL_law 248 = .ok (.iload 8, 2) := by decide +kernel
theorem dL_law_250 : decode cL_law 250 = .ok (.bipush 28, 2) := by decide +kernel
theorem dL_law_252 : decode cL_law 252 = .ok (.if_icmp .ge 7, 3) := by decide +kernel
theorem dL_law_255 : decode cL_law 255 = .ok (.iconst 1, 1) := by decide +kernel
theorem dL_law_256 : decode cL_law 256 = .ok (.goto 4, 3) := by decide +kernel
theorem dL_law_259 : decode cL_law 259 = .ok (.iconst 0, 1) := by decide +kernel
theorem dL_law_260 : decode cL_law 260 = .ok (.iadd, 1) := by decide +kernel
theorem dL_law_261 : decode cL_law 261 = .ok (.if_icmp .ne 7, 3) := by decide +kernel
theorem dL_law_264 : decode cL_law 264 = .ok (.iconst 1, 1) := by decide +kernel
theorem dL_law_265 : decode cL_law 265 = .ok (.goto 4, 3) := by decide +kernel
theorem dL_law_268 : decode cL_law 268 = .ok (.iconst 0, 1) := by decide +kernel
theorem dL_law_269 : decode cL_law 269 = .ok (.istore 20, 2) := by decide +kernel
theorem dL_law_271 : decode cL_law 271 = .ok (.iload 20, 2) := by decide +kernel
theorem dL_law_273 : decode cL_law 273 = .ok (.iload 19, 2) := by decide +kernel
theorem dL_law_275 : decode cL_law 275 = .ok (.ifCond .eq 32, 3) := by decide +kernel
theorem dL_law_278 : decode cL_law 278 = .ok (.iload 8, 2) := by decide +kernel
theorem dL_law_280 : decode cL_law 280 = .ok (.bipush 13, 2) := by decide +kernel
theorem dL_law_282 : decode cL_law 282 = .ok (.if_icmp .gt 25, 3) := by decide +kernel
theorem dL_law_285 : decode cL_law 285 = .ok (.iload 18, 2) := by decide +kernel
theorem dL_law_287 : decode cL_law 287 = .ok (.iload 11, 2) := by decide +kernel
theorem dL_law_289 : decode cL_law 289 = .ok (.iconst 1, 1) := by decide +kernel
theorem dL_law_290 : decode cL_law 290 = .ok (.iadd, 1) := by decide +kernel
theorem dL_law_291 : decode cL_law 291 = .ok (.if_icmp .ne 20, 3) := by decide +kernel
theorem dL_law_294 : decode cL_law 294 = .ok (.aload_n 1, 1) := by decide +kernel
theorem dL_law_295 : decode cL_law 295 = .ok (.iload 9, 2) := by decide +kernel
theorem dL_law_297 : decode cL_law 297 = .ok (.invokestatic 186, 3) := by decide +kernel
theorem dL_law_300 : decode cL_law 300 = .ok (.iload 11, 2) := by decide +kernel
theorem dL_law_302 : decode cL_law 302 = .ok (.iconst 1, 1) := by decide +kernel
theorem dL_law_303 : decode cL_law 303 = .ok (.iadd, 1) := by decide +kernel
theorem dL_law_304 : decode cL_law 304 = .ok (.if_icmp .ne 7, 3) := by decide +kernel
theorem dL_law_307 : decode cL_law 307 = .ok (.iconst 1, 1) := by decide +kernel
theorem dL_law_308 : decode cL_law 308 = .ok (.goto 4, 3) := by decide +kernel
theorem dL_law_311 : decode cL_law 311 = .ok (.iconst 0, 1) := by decide +kernel
theorem dL_law_312 : decode cL_law 312 = .ok (.iand, 1) := by decide +kernel
theorem dL_law_313 : decode cL_law 313 = .ok (.istore 20, 2) := by decide +kernel
theorem dL_law_315 : decode cL_law 315 = .ok (.iload 20, 2) := by decide +kernel
theorem dL_law_317 : decode cL_law 317 = .ok (.iload 19, 2) := by decide +kernel
theorem dL_law_319 : decode cL_law 319 = .ok (.ifCond .eq 44, 3) := by decide +kernel
theorem dL_law_322 : decode cL_law 322 = .ok (.iload 8, 2) := by decide +kernel
theorem dL_law_324 : decode cL_law 324 = .ok (.bipush 14, 2) := by decide +kernel
theorem dL_law_326 : decode cL_law 326 = .ok (.if_icmp .lt 37, 3) := by decide +kernel
theorem dL_law_329 : decode cL_law 329 = .ok (.iload 8, 2) := by decide +kernel
theorem dL_law_331 : decode cL_law 331 = .ok (.bipush 15, 2) := by decide +kernel
theorem dL_law_333 : decode cL_law 333 = .ok (.if_icmp .gt 30, 3) := by decide +kernel
theorem dL_law_336 : decode cL_law 336 = .ok (.aload_n 1, 1) := by decide +kernel
theorem dL_law_337 : decode cL_law 337 = .ok (.invokevirtual 190, 3) := by decide +kernel
theorem dL_law_340 : decode cL_law 340 = .ok (.lload 14, 2) := by decide +kernel
theorem dL_law_342 : decode cL_law 342 = .ok (.iload 18, 2) := by decide +kernel
theorem dL_law_344 : decode cL_law 344 = .ok (.i2l, 1) := by decide +kernel
theorem dL_law_345 : decode cL_law 345 = .ok (.lsub, 1) := by decide +kernel
theorem dL_law_346 : decode cL_law 346 = .ok (.lcmp, 1) := by decide +kernel
theorem dL_law_347 : decode cL_law 347 = .ok (.ifCond .ne 20, 3) := by decide +kernel
theorem dL_law_350 : decode cL_law 350 = .ok (.aload_n 1, 1) := by decide +kernel
theorem dL_law_351 : decode cL_law 351 = .ok (.iload 9, 2) := by decide +kernel
theorem dL_law_353 : decode cL_law 353 = .ok (.invokestatic 186, 3) := by decide +kernel
theorem dL_law_356 : decode cL_law 356 = .ok (.iload 11, 2) := by decide +kernel
theorem dL_law_358 : decode cL_law 358 = .ok (.iconst 1, 1) := by decide +kernel
theorem dL_law_359 : decode cL_law 359 = .ok (.isub, 1) := by decide +kernel
theorem dL_law_360 : decode cL_law 360 = .ok (.if_icmp .ne 7, 3) := by decide +kernel
theorem dL_law_363 : decode cL_law 363 = .ok (.iconst 1, 1) := by decide +kernel
theorem dL_law_364 : decode cL_law 364 = .ok (.goto 4, 3) := by decide +kernel
theorem dL_law_367 : decode cL_law 367 = .ok (.iconst 0, 1) := by decide +kernel
theorem dL_law_368 : decode cL_law 368 = .ok (.iand, 1) := by decide +kernel
theorem dL_law_369 : decode cL_law 369 = .ok (.istore 20, 2) := by decide +kernel
theorem dL_law_371 : decode cL_law 371 = .ok (.iload 20, 2) := by decide +kernel
theorem dL_law_373 : decode cL_law 373 = .ok (.iload 19, 2) := by decide +kernel
theorem dL_law_375 : decode cL_law 375 = .ok (.ifCond .eq 27, 3) := by decide +kernel
theorem dL_law_378 : decode cL_law 378 = .ok (.iload 8, 2) := by decide +kernel
theorem dL_law_380 : decode cL_law 380 = .ok (.bipush 18, 2) := by decide +kernel
theorem dL_law_382 : decode cL_law 382 = .ok (.if_icmp .lt 20, 3) := by decide +kernel
theorem dL_law_385 : decode cL_law 385 = .ok (.iload 8, 2) := by decide +kernel
theorem dL_law_387 : decode cL_law 387 = .ok (.bipush 38, 2) := by decide +kernel
theorem dL_law_389 : decode cL_law 389 = .ok (.if_icmp .gt 13, 3) := by decide +kernel
theorem dL_law_392 : decode cL_law 392 = .ok (.aload_n 1, 1) := by decide +kernel
theorem dL_law_393 : decode cL_law 393 = .ok (.invokevirtual 190, 3) := by decide +kernel
theorem dL_law_396 : decode cL_law 396 = .ok (.lload 14, 2) := by decide +kernel
theorem dL_law_398 : decode cL_law 398 = .ok (.lcmp, 1) := by decide +kernel
theorem dL_law_399 : decode cL_law 399 = .ok (.ifCond .ne 7, 3) := by decide +kernel
theorem dL_law_402 : decode cL_law 402 = .ok (.iconst 1, 1) := by decide +kernel
theorem dL_law_403 : decode cL_law 403 = .ok (.goto 4, 3) := by decide +kernel
theorem dL_law_406 : decode cL_law 406 = .ok (.iconst 0, 1) := by decide +kernel
theorem dL_law_407 : decode cL_law 407 = .ok (.iand, 1) := by decide +kernel
theorem dL_law_408 : decode cL_law 408 = .ok (.istore 20, 2) := by decide +kernel
theorem dL_law_410 : decode cL_law 410 = .ok (.iload 20, 2) := by decide +kernel
theorem dL_law_412 : decode cL_law 412 = .ok (.iload 19, 2) := by decide +kernel
theorem dL_law_414 : decode cL_law 414 = .ok (.ifCond .eq 42, 3) := by decide +kernel
theorem dL_law_417 : decode cL_law 417 = .ok (.iload 8, 2) := by decide +kernel
theorem dL_law_419 : decode cL_law 419 = .ok (.bipush 18, 2) := by decide +kernel
theorem dL_law_421 : decode cL_law 421 = .ok (.if_icmp .lt 35, 3) := by decide +kernel
theorem dL_law_424 : decode cL_law 424 = .ok (.iload 8, 2) := by decide +kernel
theorem dL_law_426 : decode cL_law 426 = .ok (.bipush 22, 2) := by decide +kernel
theorem dL_law_428 : decode cL_law 428 = .ok (.if_icmp .gt 28, 3) := by decide +kernel
theorem dL_law_431 : decode cL_law 431 = .ok (.aload_n 1, 1) := by decide +kernel
theorem dL_law_432 : decode cL_law 432 = .ok (.iload 9, 2) := by decide +kernel
theorem dL_law_434 : decode cL_law 434 = .ok (.invokestatic 186, 3) := by decide +kernel
theorem dL_law_437 : decode cL_law 437 = .ok (.iload 11, 2) := by decide +kernel
theorem dL_law_439 : decode cL_law 439 = .ok (.iload 18, 2) := by decide +kernel
theorem dL_law_441 : decode cL_law 441 = .ok (.isub, 1) := by decide +kernel
theorem dL_law_442 : decode cL_law 442 = .ok (.if_icmp .ne 18, 3) := by decide +kernel
theorem dL_law_445 : decode cL_law 445 = .ok (.aload_n 1, 1) := by decide +kernel
theorem dL_law_446 : decode cL_law 446 = .ok (.iload 10, 2) := by decide +kernel
theorem dL_law_448 : decode cL_law 448 = .ok (.invokestatic 186, 3) := by decide +kernel
theorem dL_law_451 : decode cL_law 451 = .ok (.iload 18, 2) := by decide +kernel
theorem dL_law_453 : decode cL_law 453 = .ok (.if_icmp .ne 7, 3) := by decide +kernel
theorem dL_law_456 : decode cL_law 456 = .ok (.iconst 1, 1) := by decide +kernel
theorem dL_law_457 : decode cL_law 457 = .ok (.goto 4, 3) := by decide +kernel
theorem dL_law_460 : decode cL_law 460 = .ok (.iconst 0, 1) := by decide +kernel
theorem dL_law_461 : decode cL_law 461 = .ok (.iand, 1) := by decide +kernel
theorem dL_law_462 : decode cL_law 462 = .ok (.istore 20, 2) := by decide +kernel
theorem dL_law_464 : decode cL_law 464 = .ok (.iload 20, 2) := by decide +kernel
theorem dL_law_466 : decode cL_law 466 = .ok (.iload 19, 2) := by decide +kernel
theorem dL_law_468 : decode cL_law 468 = .ok (.ifCond .eq 36, 3) := by decide +kernel
theorem dL_law_471 : decode cL_law 471 = .ok (.iload 8, 2) := by decide +kernel
theorem dL_law_473 : decode cL_law 473 = .ok (.bipush 23, 2) := by decide +kernel
theorem dL_law_475 : decode cL_law 475 = .ok (.if_icmp .lt 29, 3) := by decide +kernel
theorem dL_law_478 : decode cL_law 478 = .ok (.iload 8, 2) := by decide +kernel
theorem dL_law_480 : decode cL_law 480 = .ok (.bipush 27, 2) := by decide +kernel
theorem dL_law_482 : decode cL_law 482 = .ok (.if_icmp .gt 22, 3) := by decide +kernel
theorem dL_law_485 : decode cL_law 485 = .ok (.iload 18, 2) := by decide +kernel
theorem dL_law_487 : decode cL_law 487 = .ok (.iload 11, 2) := by decide +kernel
theorem dL_law_489 : decode cL_law 489 = .ok (.iload 12, 2) := by decide +kernel
theorem dL_law_491 : decode cL_law 491 = .ok (.iadd, 1) := by decide +kernel
theorem dL_law_492 : decode cL_law 492 = .ok (.if_icmp .ne 16, 3) := by decide +kernel
theorem dL_law_495 : decode cL_law 495 = .ok (.aload_n 1, 1) := by decide +kernel
theorem dL_law_496 : decode cL_law 496 = .ok (.iload 10, 2) := by decide +kernel
theorem dL_law_498 : decode cL_law 498 = .ok (.invokestatic 186, 3) := by decide +kernel
theorem dL_law_501 : decode cL_law 501 = .ok (.ifCond .ne 7, 3) := by decide +kernel
theorem dL_law_504 : decode cL_law 504 = .ok (.iconst 1, 1) := by decide +kernel
theorem dL_law_505 : decode cL_law 505 = .ok (.goto 4, 3) := by decide +kernel
theorem dL_law_508 : decode cL_law 508 = .ok (.iconst 0, 1) := by decide +kernel
theorem dL_law_509 : decode cL_law 509 = .ok (.iand, 1) := by decide +kernel
theorem dL_law_510 : decode cL_law 510 = .ok (.istore 20, 2) := by decide +kernel
theorem dL_law_512 : decode cL_law 512 = .ok (.iload 20, 2) := by decide +kernel
theorem dL_law_514 : decode cL_law 514 = .ok (.iload 19, 2) := by decide +kernel
theorem dL_law_516 : decode cL_law 516 = .ok (.ifCond .eq 50, 3) := by decide +kernel
theorem dL_law_519 : decode cL_law 519 = .ok (.iload 8, 2) := by decide +kernel
theorem dL_law_521 : decode cL_law 521 = .ok (.bipush 28, 2) := by decide +kernel
theorem dL_law_523 : decode cL_law 523 = .ok (.if_icmp .lt 43, 3) := by decide +kernel
theorem dL_law_526 : decode cL_law 526 = .ok (.iload 8, 2) := by decide +kernel
theorem dL_law_528 : decode cL_law 528 = .ok (.bipush 29, 2) := by decide +kernel
theorem dL_law_530 : decode cL_law 530 = .ok (.if_icmp .gt 36, 3) := by decide +kernel
theorem dL_law_533 : decode cL_law 533 = .ok (.aload_n 1, 1) := by decide +kernel
theorem dL_law_534 : decode cL_law 534 = .ok (.iload 9, 2) := by decide +kernel
theorem dL_law_536 : decode cL_law 536 = .ok (.invokestatic 186, 3) := by decide +kernel
theorem dL_law_539 : decode cL_law 539 = .ok (.iload 12, 2) := by decide +kernel
theorem dL_law_541 : decode cL_law 541 = .ok (.if_icmp .ne 29, 3) := by decide +kernel
theorem dL_law_544 : decode cL_law 544 = .ok (.aload_n 1, 1) := by decide +kernel
theorem dL_law_545 : decode cL_law 545 = .ok (.iload 10, 2) := by decide +kernel
theorem dL_law_547 : decode cL_law 547 = .ok (.invokestatic 186, 3) := by decide +kernel
theorem dL_law_550 : decode cL_law 550 = .ok (.iload 11, 2) := by decide +kernel
theorem dL_law_552 : decode cL_law 552 = .ok (.if_icmp .ne 18, 3) := by decide +kernel
theorem dL_law_555 : decode cL_law 555 = .ok (.aload_n 1, 1) := by decide +kernel
theorem dL_law_556 : decode cL_law 556 = .ok (.iload 10, 2) := by decide +kernel
theorem dL_law_558 : decode cL_law 558 = .ok (.invokestatic 188, 3) := by decide +kernel
theorem dL_law_561 : decode cL_law 561 = .ok (.iload 13, 2) := by decide +kernel
theorem dL_law_563 : decode cL_law 563 = .ok (.if_icmp .ne 7, 3) := by decide +kernel
theorem dL_law_566 : decode cL_law 566 = .ok (.iconst 1, 1) := by decide +kernel
theorem dL_law_567 : decode cL_law 567 = .ok (.goto 4, 3) := by decide +kernel
theorem dL_law_570 : decode cL_law 570 = .ok (.iconst 0, 1) := by decide +kernel
theorem dL_law_571 : decode cL_law 571 = .ok (.iand, 1) := by decide +kernel
theorem dL_law_572 : decode cL_law 572 = .ok (.istore 20, 2) := by decide +kernel
theorem dL_law_574 : decode cL_law 574 = .ok (.iload 20, 2) := by decide +kernel
theorem dL_law_576 : decode cL_law 576 = .ok (.iload 19, 2) := by decide +kernel
theorem dL_law_578 : decode cL_law 578 = .ok (.ifCond .eq 51, 3) := by decide +kernel
theorem dL_law_581 : decode cL_law 581 = .ok (.iload 8, 2) := by decide +kernel
theorem dL_law_583 : decode cL_law 583 = .ok (.bipush 30, 2) := by decide +kernel
theorem dL_law_585 : decode cL_law 585 = .ok (.if_icmp .lt 44, 3) := by decide +kernel
theorem dL_law_588 : decode cL_law 588 = .ok (.iload 8, 2) := by decide +kernel
theorem dL_law_590 : decode cL_law 590 = .ok (.bipush 38, 2) := by decide +kernel
theorem dL_law_592 : decode cL_law 592 = .ok (.if_icmp .gt 37, 3) := by decide +kernel
theorem dL_law_595 : decode cL_law 595 = .ok (.aload_n 1, 1) := by decide +kernel
theorem dL_law_596 : decode cL_law 596 = .ok (.iload 9, 2) := by decide +kernel
theorem dL_law_598 : decode cL_law 598 = .ok (.invokestatic 186, 3) := by decide +kernel
theorem dL_law_601 : decode cL_law 601 = .ok (.iload 11, 2) := by decide +kernel
theorem dL_law_603 : decode cL_law 603 = .ok (.if_icmp .ne 30, 3) := by decide +kernel
theorem dL_law_606 : decode cL_law 606 = .ok (.aload_n 1, 1) := by decide +kernel
theorem dL_law_607 : decode cL_law 607 = .ok (.iload 9, 2) := by decide +kernel
theorem dL_law_609 : decode cL_law 609 = .ok (.invokestatic 188, 3) := by decide +kernel
theorem dL_law_612 : decode cL_law 612 = .ok (.iload 13, 2) := by decide +kernel
theorem dL_law_614 : decode cL_law 614 = .ok (.if_icmp .ne 19, 3) := by decide +kernel
theorem dL_law_617 : decode cL_law 617 = .ok (.iload 18, 2) := by decide +kernel
theorem dL_law_619 : decode cL_law 619 = .ok (.iload 13, 2) := by decide +kernel
theorem dL_law_621 : decode cL_law 621 = .ok (.iload 11, 2) := by decide +kernel
theorem dL_law_623 : decode cL_law 623 = .ok (.invokestatic 200, 3) := by decide +kernel
theorem dL_law_626 : decode cL_law 626 = .ok (.if_icmp .gt 7, 3) := by decide +kernel
theorem dL_law_629 : decode cL_law 629 = .ok (.iconst 1, 1) := by decide +kernel
theorem dL_law_630 : decode cL_law 630 = .ok (.goto 4, 3) := by decide +kernel
theorem dL_law_633 : decode cL_law 633 = .ok (.iconst 0, 1) := by decide +kernel
theorem dL_law_634 : decode cL_law 634 = .ok (.iand, 1) := by decide +kernel
theorem dL_law_635 : decode cL_law 635 = .ok (.istore 20, 2) := by decide +kernel
theorem dL_law_637 : decode cL_law 637 = .ok (.iinc 4 6, 3) := by decide +kernel
theorem dL_law_640 : decode cL_law 640 = .ok (.iload 20, 2) := by decide +kernel
theorem dL_law_642 : decode cL_law 642 = .ok (.ifCond .eq 26, 3) := by decide +kernel
theorem dL_law_645 : decode cL_law 645 = .ok (.aload_n 1, 1) := by decide +kernel
theorem dL_law_646 : decode cL_law 646 = .ok (.aload_n 0, 1) := by decide +kernel
theorem dL_law_647 : decode cL_law 647 = .ok (.iload 4, 2) := by decide +kernel
theorem dL_law_649 : decode cL_law 649 = .ok (.iload 5, 2) := by decide +kernel
theorem dL_law_651 : decode cL_law 651 = .ok (.iconst 4, 1) := by decide +kernel
theorem dL_law_652 : decode cL_law 652 = .ok (.irem, 1) := by decide +kernel
theorem dL_law_653 : decode cL_law 653 = .ok (.iconst 3, 1) := by decide +kernel
theorem dL_law_654 : decode cL_law 654 = .ok (.if_icmp .ne 7, 3) := by decide +kernel
theorem dL_law_657 : decode cL_law 657 = .ok (.iconst 1, 1) := by decide +kernel
theorem dL_law_658 : decode cL_law 658 = .ok (.goto 4, 3) := by decide +kernel
theorem dL_law_661 : decode cL_law 661 = .ok (.iconst 0, 1) := by decide +kernel
theorem dL_law_662 : decode cL_law 662 = .ok (.invokestatic 209, 3) := by decide +kernel
theorem dL_law_665 : decode cL_law 665 = .ok (.ifCond .ne 5, 3) := by decide +kernel
theorem dL_law_668 : decode cL_law 668 = .ok (.iconst 0, 1) := by decide +kernel
theorem dL_law_669 : decode cL_law 669 = .ok (.ireturn, 1) := by decide +kernel
theorem dL_law_670 : decode cL_law 670 = .ok (.iload 19, 2) := by decide +kernel
theorem dL_law_672 : decode cL_law 672 = .ok (.ifCond .ne 15, 3) := by decide +kernel
theorem dL_law_675 : decode cL_law 675 = .ok (.aload_n 1, 1) := by decide +kernel
theorem dL_law_676 : decode cL_law 676 = .ok (.invokestatic 178, 3) := by decide +kernel
theorem dL_law_679 : decode cL_law 679 = .ok (.lload 6, 2) := by decide +kernel
theorem dL_law_681 : decode cL_law 681 = .ok (.lcmp, 1) := by decide +kernel
theorem dL_law_682 : decode cL_law 682 = .ok (.ifCond .eq 15, 3) := by decide +kernel
theorem dL_law_685 : decode cL_law 685 = .ok (.iconst 0, 1) := by decide +kernel
theorem dL_law_686 : decode cL_law 686 = .ok (.ireturn, 1) := by decide +kernel
theorem dL_law_687 : decode cL_law 687 = .ok (.iinc 3 1, 3) := by decide +kernel
theorem dL_law_690 : decode cL_law 690 = .ok (.aload_n 2, 1) := by decide +kernel
theorem dL_law_691 : decode cL_law 691 = .ok (.iload_n 3, 1) := by decide +kernel
theorem dL_law_692 : decode cL_law 692 = .ok (.aload_n 1, 1) := by decide +kernel
theorem dL_law_693 : decode cL_law 693 = .ok (.invokestatic 178, 3) := by decide +kernel
theorem dL_law_696 : decode cL_law 696 = .ok (.lastore, 1) := by decide +kernel
theorem dL_law_697 : decode cL_law 697 = .ok (.iinc 5 1, 3) := by decide +kernel
theorem dL_law_700 : decode cL_law 700 = .ok (.goto (-672), 3) := by decide +kernel
theorem dL_law_703 : decode cL_law 703 = .ok (.aload_n 1, 1) := by decide +kernel
theorem dL_law_704 : decode cL_law 704 = .ok (.aload_n 2, 1) := by decide +kernel
theorem dL_law_705 : decode cL_law 705 = .ok (.iload_n 3, 1) := by decide +kernel
theorem dL_law_706 : decode cL_law 706 = .ok (.invokestatic 213, 3) := by decide +kernel
theorem dL_law_709 : decode cL_law 709 = .ok (.ireturn, 1) := by decide +kernel
theorem dL_isReel_0 : decode cL_isReel 0 = .ok (.aload_n 0, 1) := by decide +kernel
theorem dL_isReel_1 : decode cL_isReel 1 = .ok (.iload_n 1, 1) := by decide +kernel
theorem dL_isReel_2 : decode cL_isReel 2 = .ok (.invokestatic 186, 3) := by decide +kernel
theorem dL_isReel_5 : decode cL_isReel 5 = .ok (.istore 4, 2) := by decide +kernel
theorem dL_isReel_7 : decode cL_isReel 7 = .ok (.iconst 0, 1) := by decide +kernel
theorem dL_isReel_8 : decode cL_isReel 8 = .ok (.istore 5, 2) := by decide +kernel
theorem dL_isReel_10 : decode cL_isReel 10 = .ok (.iconst 0, 1) := by decide +kernel
theorem dL_isReel_11 : decode cL_isReel 11 = .ok (.istore 6, 2) := by decide +kernel
theorem dL_isReel_13 : decode cL_isReel 13 = .ok (.iconst 0, 1) := by decide +kernel
theorem dL_isReel_14 : decode cL_isReel 14 = .ok (.istore 7, 2) := by decide +kernel
theorem dL_isReel_16 : decode cL_isReel 16 = .ok (.iconst 0, 1) := by decide +kernel
theorem dL_isReel_17 : decode cL_isReel 17 = .ok (.istore 8, 2) := by decide +kernel
theorem dL_isReel_19 : decode cL_isReel 19 = .ok (.iconst 0, 1) := by decide +kernel
theorem dL_isReel_20 : decode cL_isReel 20 = .ok (.istore 9, 2) := by decide +kernel
theorem dL_isReel_22 : decode cL_isReel 22 = .ok (.iload 9, 2) := by decide +kernel
theorem dL_isReel_24 : decode cL_isReel 24 = .ok (.iload 4, 2) := by decide +kernel
theorem dL_isReel_26 : decode cL_isReel 26 = .ok (.if_icmp .ge 330, 3) := by decide +kernel
theorem dL_isReel_29 : decode cL_isReel 29 = .ok (.aload_n 0, 1) := by decide +kernel
theorem dL_isReel_30 : decode cL_isReel 30 = .ok (.iload_n 1, 1) := by decide +kernel
theorem dL_isReel_31 : decode cL_isReel 31 = .ok (.iload 9, 2) := by decide +kernel
theorem dL_isReel_33 : decode cL_isReel 33 = .ok (.invokestatic 280, 3) := by decide +kernel
theorem dL_isReel_36 : decode cL_isReel 36 = .ok (.istore 10, 2) := by decide +kernel
theorem dL_isReel_38 : decode cL_isReel 38 = .ok (.iload 9, 2) := by decide +kernel
theorem dL_isReel_40 : decode cL_isReel 40 = .ok (.ifCond .le 26, 3) := by decide +kernel
theorem dL_isReel_43 : decode cL_isReel 43 = .ok (.aload_n 0, 1) := by decide +kernel
theorem dL_isReel_44 : decode cL_isReel 44 = .ok (.iload_n 1, 1) := by decide +kernel
theorem dL_isReel_45 : decode cL_isReel 45 = .ok (.iload 9, 2) := by decide +kernel
theorem dL_isReel_47 : decode cL_isReel 47 = .ok (.iconst 1, 1) := by decide +kernel
theorem dL_isReel_48 : decode cL_isReel 48 = .ok (.isub, 1) := by decide +kernel
theorem dL_isReel_49 : decode cL_isReel 49 = .ok (.invokestatic 282, 3) := by decide +kernel
theorem dL_isReel_52 : decode cL_isReel 52 = .ok (.aload_n 0, 1) := by decide +kernel
theorem dL_isReel_53 : decode cL_isReel 53 = .ok (.iload_n 1, 1) := by decide +kernel
theorem dL_isReel_54 : decode cL_isReel 54 = .ok (.iload 9, 2) := by decide +kernel
theorem dL_isReel_56 : decode cL_isReel 56 = .ok (.invokestatic 282, 3) := by decide +kernel
theorem dL_isReel_59 : decode cL_isReel 59 = .ok (.if_icmp .ne 7, 3) := by decide +kernel
theorem dL_isReel_62 : decode cL_isReel 62 = .ok (.iconst 1, 1) := by decide +kernel
theorem dL_isReel_63 : decode cL_isReel 63 = .ok (.goto 4, 3) := by decide +kernel
theorem dL_isReel_66 : decode cL_isReel 66 = .ok (.iconst 0, 1) := by decide +kernel
theorem dL_isReel_67 : decode cL_isReel 67 = .ok (.istore 11, 2) := by decide +kernel
theorem dL_isReel_69 : decode cL_isReel 69 = .ok (.iload 9, 2) := by decide +kernel
theorem dL_isReel_71 : decode cL_isReel 71 = .ok (.iconst 1, 1) := by decide +kernel
theorem dL_isReel_72 : decode cL_isReel 72 = .ok (.iadd, 1) := by decide +kernel
theorem dL_isReel_73 : decode cL_isReel 73 = .ok (.iload 4, 2) := by decide +kernel
theorem dL_isReel_75 : decode cL_isReel 75 = .ok (.if_icmp .ge 26, 3) := by decide +kernel
theorem dL_isReel_78 : decode cL_isReel 78 = .ok (.aload_n 0, 1) := by decide +kernel
theorem dL_isReel_79 : decode cL_isReel 79 = .ok (.iload_n 1, 1) := by decide +kernel
theorem dL_isReel_80 : decode cL_isReel 80 = .ok (.iload 9, 2) := by decide +kernel
theorem dL_isReel_82 : decode cL_isReel 82 = .ok (.iconst 1, 1) := by decide +kernel
theorem dL_isReel_83 : decode cL_isReel 83 = .ok (.iadd, 1) := by decide +kernel
theorem dL_isReel_84 : decode cL_isReel 84 = .ok (.invokestatic 282, 3) := by decide +kernel
theorem dL_isReel_87 : decode cL_isReel 87 = .ok (.aload_n 0, 1) := by decide +kernel
theorem dL_isReel_88 : decode cL_isReel 88 = .ok (.iload_n 1, 1) := by decide +kernel
theorem dL_isReel_89 : decode cL_isReel 89 = .ok (.iload 9, 2) := by decide +kernel
theorem dL_isReel_91 : decode cL_isReel 91 = .ok (.invokestatic 282, 3) := by decide +kernel
theorem dL_isReel_94 : decode cL_isReel 94 = .ok (.if_icmp .ne 7, 3) := by decide +kernel
theorem dL_isReel_97 : decode cL_isReel 97 = .ok (.iconst 1, 1) := by decide +kernel
theorem dL_isReel_98 : decode cL_isReel 98 = .ok (.goto 4, 3) := by decide +kernel
theorem dL_isReel_101 : decode cL_isReel 101 = .ok (.iconst 0, 1) := by decide +kernel
theorem dL_isReel_102 : decode cL_isReel 102 = .ok (.istore 12, 2) := by decide +kernel
theorem dL_isReel_104 : decode cL_isReel 104 = .ok (.aload_n 0, 1) := by decide +kernel
theorem dL_isReel_105 : decode cL_isReel 105 = .ok (.iload_n 1, 1) := by decide +kernel
theorem dL_isReel_106 : decode cL_isReel 106 = .ok (.iload 9, 2) := by decide +kernel
theorem dL_isReel_108 : decode cL_isReel 108 = .ok (.invokestatic 284, 3) := by decide +kernel
theorem dL_isReel_111 : decode cL_isReel 111 = .ok (.istore 13, 2) := by decide +kernel
theorem dL_isReel_113 : decode cL_isReel 113 = .ok (.iload 9, 2) := by decide +kernel
theorem dL_isReel_115 : decode cL_isReel 115 = .ok (.ifCond .ne 8, 3) := by decide +kernel
theorem dL_isReel_118 : decode cL_isReel 118 = .ok (.iload 13, 2) := by decide +kernel
theorem dL_isReel_120 : decode cL_isReel 120 = .ok (.goto 12, 3) := by decide +kernel
theorem dL_isReel_123 : decode cL_isReel 123 = .ok (.aload_n 0, 1) := by decide +kernel
theorem dL_isReel_124 : decode cL_isReel 124 = .ok (.iload_n 1, 1) := by decide +kernel
theorem dL_isReel_125 : decode cL_isReel 125 = .ok (.iload 9, 2) := by decide +kernel
theorem dL_isReel_127 : decode cL_isReel 127 = .ok (.iconst 1, 1) := by decide +kernel
theorem dL_isReel_128 : decode cL_isReel 128 = .ok (.isub, 1) := by decide +kernel
theorem dL_isReel_129 : decode cL_isReel 129 = .ok (.invokestatic 284, 3) := by decide +kernel
theorem dL_isReel_132 : decode cL_isReel 132 = .ok (.istore 14, 2) := by decide +kernel
theorem dL_isReel_134 : decode cL_isReel 134 = .ok (.aload_n 0, 1) := by decide +kernel
theorem dL_isReel_135 : decode cL_isReel 135 = .ok (.iload_n 1, 1) := by decide +kernel
theorem dL_isReel_136 : decode cL_isReel 136 = .ok (.iload 14, 2) := by decide +kernel
theorem dL_isReel_138 : decode cL_isReel 138 = .ok (.invokestatic 280, 3) := by decide +kernel
theorem dL_isReel_141 : decode cL_isReel 141 = .ok (.aload_n 0, 1) := by decide +kernel
theorem dL_isReel_142 : decode cL_isReel 142 = .ok (.iload_n 1, 1) := by decide +kernel
theorem dL_isReel_143 : decode cL_isReel 143 = .ok (.iload 13, 2) := by decide +kernel
theorem dL_isReel_145 : decode cL_isReel 145 = .ok (.invokestatic 280, 3) := by decide +kernel
theorem dL_isReel_148 : decode cL_isReel 148 = .ok (.if_icmp .gt 39, 3) := by decide +kernel
theorem dL_isReel_151 : decode cL_isReel 151 = .ok (.aload_n 0, 1) := by decide +kernel
theorem dL_isReel_152 : decode cL_isReel 152 = .ok (.iload_n 1, 1) := by decide +kernel
theorem dL_isReel_153 : decode cL_isReel 153 = .ok (.iload 14, 2) := by decide +kernel
theorem dL_isReel_155 : decode cL_isReel 155 = .ok (.invokestatic 280, 3) := by decide +kernel
theorem dL_isReel_158 : decode cL_isReel 158 = .ok (.aload_n 0, 1) := by decide +kernel
theorem dL_isReel_159 : decode cL_isReel 159 = .ok (.iload_n 1, 1) := by decide +kernel
theorem dL_isReel_160 : decode cL_isReel 160 = .ok (.iload 13, 2) := by decide +kernel
theorem dL_isReel_162 : decode cL_isReel 162 = .ok (.invokestatic 280, 3) := by decide +kernel
theorem dL_isReel_165 : decode cL_isReel 165 = .ok (.if_icmp .ne 26, 3) := by decide +kernel
theorem dL_isReel_168 : decode cL_isReel 168 = .ok (.iload 14, 2) := by decide +kernel
theorem dL_isReel_170 : decode cL_isReel 170 = .ok (.iload 13, 2) := by decide +kernel
theorem dL_isReel_172 : decode cL_isReel 172 = .ok (.if_icmp .gt 19, 3) := by decide +kernel
theorem dL_isReel_175 : decode cL_isReel 175 = .ok (.iload 9, 2) := by decide +kernel
theorem dL_isReel_177 : decode cL_isReel 177 = .ok (.ifCond .eq 10, 3) := by decide +kernel
theorem dL_isReel_180 : decode cL_isReel 180 = .ok (.iload 14, 2) := by decide +kernel
theorem dL_isReel_182 : decode cL_isReel 182 = .ok (.iload 13, 2) := by decide +kernel
theorem dL_isReel_184 : decode cL_isReel 184 = .ok (.if_icmp .ge 7, 3) := by decide +kernel
theorem dL_isReel_187 : decode cL_isReel 187 = .ok (.iconst 1, 1) := by decide +kernel
theorem dL_isReel_188 : decode cL_isReel 188 = .ok (.goto 4, 3) := by decide +kernel
theorem dL_isReel_191 : decode cL_isReel 191 = .ok (.iconst 0, 1) := by decide +kernel
theorem dL_isReel_192 : decode cL_isReel 192 = .ok (.istore 15, 2) := by decide +kernel
theorem dL_isReel_194 : decode cL_isReel 194 = .ok (.aload_n 0, 1) := by decide +kernel
theorem dL_isReel_195 : decode cL_isReel 195 = .ok (.iload_n 1, 1) := by decide +kernel
theorem dL_isReel_196 : decode cL_isReel 196 = .ok (.iload 9, 2) := by decide +kernel
theorem dL_isReel_198 : decode cL_isReel 198 = .ok (.invokestatic 286, 3) := by decide +kernel
theorem dL_isReel_201 : decode cL_isReel 201 = .ok (.iload 5, 2) := by decide +kernel
theorem dL_isReel_203 : decode cL_isReel 203 = .ok (.if_icmp .ne 48, 3) := by decide +kernel
theorem dL_isReel_206 : decode cL_isReel 206 = .ok (.aload_n 0, 1) := by decide +kernel
theorem dL_isReel_207 : decode cL_isReel 207 = .ok (.iload_n 1, 1) := by decide +kernel
theorem dL_isReel_208 : decode cL_isReel 208 = .ok (.iload 9, 2) := by decide +kernel
theorem dL_isReel_210 : decode cL_isReel 210 = .ok (.invokestatic 288, 3) := by decide +kernel
theorem dL_isReel_213 : decode cL_isReel 213 = .ok (.iload 5, 2) := by decide +kernel
theorem dL_isReel_215 : decode cL_isReel 215 = .ok (.if_icmp .ne 36, 3) := by decide +kernel
theorem dL_isReel_218 : decode cL_isReel 218 = .ok (.aload_n 0, 1) := by decide +kernel
theorem dL_isReel_219 : decode cL_isReel 219 = .ok (.iload_n 1, 1) := by decide +kernel
theorem dL_isReel_220 : decode cL_isReel 220 = .ok (.iload 5, 2) := by decide +kernel
theorem dL_isReel_222 : decode cL_isReel 222 = .ok (.invokestatic 290, 3) := by decide +kernel
theorem dL_isReel_225 : decode cL_isReel 225 = .ok (.iload 9, 2) := by decide +kernel
theorem dL_isReel_227 : decode cL_isReel 227 = .ok (.if_icmp .ne 24, 3) := by decide +kernel
theorem dL_isReel_230 : decode cL_isReel 230 = .ok (.aload_n 0, 1) := by decide +kernel
theorem dL_isReel_231 : decode cL_isReel 231 = .ok (.iload_n 1, 1) := by decide +kernel
theorem dL_isReel_232 : decode cL_isReel 232 = .ok (.iload 5, 2) := by decide +kernel
theorem dL_isReel_234 : decode cL_isReel 234 = .ok (.iload 10, 2) := by decide +kernel
theorem dL_isReel_236 : decode cL_isReel 236 = .ok (.iadd, 1) := by decide +kernel
theorem dL_isReel_237 : decode cL_isReel 237 = .ok (.iconst 1, 1) := by decide +kernel
theorem dL_isReel_238 : decode cL_isReel 238 = .ok (.isub, 1) := by decide +kernel
theorem dL_isReel_239 : decode cL_isReel 239 = .ok (.invokestatic 290, 3) := by decide +kernel
theorem dL_isReel_242 : decode cL_isReel 242 = .ok (.iload 9, 2) := by decide +kernel
theorem dL_isReel_244 : decode cL_isReel 244 = .ok (.if_icmp .ne 7, 3) := by decide +kernel
theorem dL_isReel_247 : decode cL_isReel 247 = .ok (.iconst 1, 1) := by decide +kernel
theorem dL_isReel_248 : decode cL_isReel 248 = .ok (.goto 4, 3) := by decide +kernel
theorem dL_isReel_251 : decode cL_isReel 251 = .ok (.iconst 0, 1) := by decide +kernel
theorem dL_isReel_252 : decode cL_isReel 252 = .ok (.istore 16, 2) := by decide +kernel
theorem dL_isReel_254 : decode cL_isReel 254 = .ok (.iload 15, 2) := by decide +kernel
theorem dL_isReel_256 : decode cL_isReel 256 = .ok (.ifCond .eq 46, 3) := by decide +kernel
theorem dL_isReel_259 : decode cL_isReel 259 = .ok (.iload 16, 2) := by decide +kernel
theorem dL_isReel_261 : decode cL_isReel 261 = .ok (.ifCond .eq 41, 3) := by decide +kernel
theorem dL_isReel_264 : decode cL_isReel 264 = .ok (.aload_n 0, 1) := by decide +kernel
theorem dL_isReel_265 : decode cL_isReel 265 = .ok (.iload_n 1, 1) := by decide +kernel
theorem dL_isReel_266 : decode cL_isReel 266 = .ok (.iload 9, 2) := by decide +kernel
theorem dL_isReel_268 : decode cL_isReel 268 = .ok (.invokestatic 292, 3) := by decide +kernel
theorem dL_isReel_271 : decode cL_isReel 271 = .ok (.iload 11, 2) := by decide +kernel
theorem dL_isReel_273 : decode cL_isReel 273 = .ok (.ifCond .ne 8, 3) := by decide +kernel
theorem dL_isReel_276 : decode cL_isReel 276 = .ok (.iload 12, 2) := by decide +kernel
theorem dL_isReel_278 : decode cL_isReel 278 = .ok (.ifCond .eq 7, 3) := by decide +kernel
theorem dL_isReel_281 : decode cL_isReel 281 = .ok (.iconst 1, 1) := by decide +kernel
theorem dL_isReel_282 : decode cL_isReel 282 = .ok (.goto 4, 3) := by decide +kernel
theorem dL_isReel_285 : decode cL_isReel 285 = .ok (.iconst 0, 1) := by decide +kernel
theorem dL_isReel_286 : decode cL_isReel 286 = .ok (.if_icmp .ne 16, 3) := by decide +kernel
theorem dL_isReel_289 : decode cL_isReel 289 = .ok (.iload 10, 2) := by decide +kernel
theorem dL_isReel_291 : decode cL_isReel 291 = .ok (.iconst 1, 1) := by decide +kernel
theorem dL_isReel_292 : decode cL_isReel 292 = .ok (.if_icmp .lt 10, 3) := by decide +kernel
theorem dL_isReel_295 : decode cL_isReel 295 = .ok (.iload 10, 2) := by decide +kernel
theorem dL_isReel_297 : decode cL_isReel 297 = .ok (.bipush 99, 2) := by decide +kernel
theorem dL_isReel_299 : decode cL_isReel 299 = .ok (.if_icmp .le 5, 3) := by decide +kernel
theorem dL_isReel_302 : decode cL_isReel 302 = .ok (.iconst 0, 1) := by decide +kernel
theorem dL_isReel_303 : decode cL_isReel 303 = .ok (.ireturn, 1) := by decide +kernel
theorem dL_isReel_304 : decode cL_isReel 304 = .ok (.iload 5, 2) := by decide +kernel
theorem dL_isReel_306 : decode cL_isReel 306 = .ok (.iload 10, 2) := by decide +kernel
theorem dL_isReel_308 : decode cL_isReel 308 = .ok (.iadd, 1) := by decide +kernel
theorem dL_isReel_309 : decode cL_isReel 309 = .ok (.istore 5, 2) := by decide +kernel
theorem dL_isReel_311 : decode cL_isReel 311 = .ok (.iload 6, 2) := by decide +kernel
theorem dL_isReel_313 : decode cL_isReel 313 = .ok (.iload 11, 2) := by decide +kernel
theorem dL_isReel_315 : decode cL_isReel 315 = .ok (.ifCond .eq 7, 3) := by decide +kernel
theorem dL_isReel_318 : decode cL_isReel 318 = .ok (.iconst 1, 1) := by decide +kernel
theorem dL_isReel_319 : decode cL_isReel 319 = .ok (.goto 4, 3) := by decide +kernel
theorem dL_isReel_322 : decode cL_isReel 322 = .ok (.iconst 0, 1) := by decide +kernel
theorem dL_isReel_323 : decode cL_isReel 323 = .ok (.iadd, 1) := by decide +kernel
theorem dL_isReel_324 : decode cL_isReel 324 = .ok (.istore 6, 2) := by decide +kernel
theorem dL_isReel_326 : decode cL_isReel 326 = .ok (.iload 11, 2) := by decide +kernel
theorem dL_isReel_328 : decode cL_isReel 328 = .ok (.ifCond .eq 10, 3) := by decide +kernel
theorem dL_isReel_331 : decode cL_isReel 331 = .ok (.iload 7, 2) := by decide +kernel
theorem dL_isReel_333 : decode cL_isReel 333 = .ok (.iconst 1, 1) := by decide +kernel
theorem dL_isReel_334 : decode cL_isReel 334 = .ok (.iadd, 1) := by decide +kernel
theorem dL_isReel_335 : decode cL_isReel 335 = .ok (.goto 4, 3) := by decide +kernel
theorem dL_isReel_338 : decode cL_isReel 338 = .ok (.iconst 1, 1) := by decide +kernel
theorem dL_isReel_339 : decode cL_isReel 339 = .ok (.istore 7, 2) := by decide +kernel
theorem dL_isReel_341 : decode cL_isReel 341 = .ok (.iload 8, 2) := by decide +kernel
theorem dL_isReel_343 : decode cL_isReel 343 = .ok (.iload 7, 2) := by decide +kernel
theorem dL_isReel_345 : decode cL_isReel 345 = .ok (.invokestatic 200, 3) := by decide +kernel
theorem dL_isReel_348 : decode cL_isReel 348 = .ok (.istore 8, 2) := by decide +kernel
theorem dL_isReel_350 : decode cL_isReel 350 = .ok (.iinc 9 1, 3) := by decide +kernel
theorem dL_isReel_353 : decode cL_isReel 353 = .ok (.goto (-331), 3) := by decide +kernel
theorem dL_isReel_356 : decode cL_isReel 356 = .ok (.iconst 0, 1) := by decide +kernel
theorem dL_isReel_357 : decode cL_isReel 357 = .ok (.istore 9, 2) := by decide +kernel
theorem dL_isReel_359 : decode cL_isReel 359 = .ok (.iconst 0, 1) := by decide +kernel
theorem dL_isReel_360 : decode cL_isReel 360 = .ok (.istore 10, 2) := by decide +kernel
theorem dL_isReel_362 : decode cL_isReel 362 = .ok (.iload 10, 2) := by decide +kernel
theorem dL_isReel_364 : decode cL_isReel 364 = .ok (.bipush 8, 2) := by decide +kernel
theorem dL_isReel_366 : decode cL_isReel 366 = .ok (.if_icmp .ge 133, 3) := by decide +kernel
theorem dL_isReel_369 : decode cL_isReel 369 = .ok (.iload 4, 2) := by decide +kernel
theorem dL_isReel_371 : decode cL_isReel 371 = .ok (.ifCond .ne 8, 3) := by decide +kernel
theorem dL_isReel_374 : decode cL_isReel 374 = .ok (.bipush (-77), 2) := by decide +kernel
theorem dL_isReel_376 : decode cL_isReel 376 = .ok (.goto 11, 3) := by decide +kernel
theorem dL_isReel_379 : decode cL_isReel 379 = .ok (.aload_n 0, 1) := by decide +kernel
theorem dL_isReel_380 : decode cL_isReel 380 = .ok (.iload_n 1, 1) := by decide +kernel
theorem dL_isReel_381 : decode cL_isReel 381 = .ok (.iconst 0, 1) := by decide +kernel
theorem dL_isReel_382 : decode cL_isReel 382 = .ok (.iload 10, 2) := by decide +kernel
theorem dL_isReel_384 : decode cL_isReel 384 = .ok (.invokestatic 294, 3) := by decide +kernel
theorem dL_isReel_387 : decode cL_isReel 387 = .ok (.istore 11, 2) := by decide +kernel
theorem dL_isReel_389 : decode cL_isReel 389 = .ok (.aload_n 0, 1) := by decide +kernel
theorem dL_isReel_390 : decode cL_isReel 390 = .ok (.iload_n 1, 1) := by decide +kernel
theorem dL_isReel_391 : decode cL_isReel 391 = .ok (.iload 10, 2) := by decide +kernel
theorem dL_isReel_393 : decode cL_isReel 393 = .ok (.invokestatic 296, 3) := by decide +kernel
theorem dL_isReel_396 : decode cL_isReel 396 = .ok (.istore 12, 2) := by decide +kernel
theorem dL_isReel_398 : decode cL_isReel 398 = .ok (.iload 9, 2) := by decide +kernel
theorem dL_isReel_400 : decode cL_isReel 400 = .ok (.iload 12, 2) := by decide +kernel
theorem dL_isReel_402 : decode cL_isReel 402 = .ok (.iadd, 1) := by decide +kernel
theorem dL_isReel_403 : decode cL_isReel 403 = .ok (.istore 9, 2) := by decide +kernel
theorem dL_isReel_405 : decode cL_isReel 405 = .ok (.iload 11, 2) := by decide +kernel
theorem dL_isReel_407 : decode cL_isReel 407 = .ok (.ifCond .lt 35, 3) := by decide +kernel
theorem dL_isReel_410 : decode cL_isReel 410 = .ok (.aload_n 0, 1) := by decide +kernel
theorem dL_isReel_411 : decode cL_isReel 411 = .ok (.iload_n 1, 1) := by decide +kernel
theorem dL_isReel_412 : decode cL_isReel 412 = .ok (.iload 11, 2) := by decide +kernel
theorem dL_isReel_414 : decode cL_isReel 414 = .ok (.invokestatic 282, 3) := by decide +kernel
theorem dL_isReel_417 : decode cL_isReel 417 = .ok (.iload 10, 2) := by decide +kernel
theorem dL_isReel_419 : decode cL_isReel 419 = .ok (.if_icmp .ne 19, 3) := by decide +kernel
theorem dL_isReel_422 : decode cL_isReel 422 = .ok (.iload 12, 2) := by decide +kernel
theorem dL_isReel_424 : decode cL_isReel 424 = .ok (.aload_n 0, 1) := by decide +kernel
theorem dL_isReel_425 : decode cL_isReel 425 = .ok (.iload_n 1, 1) := by decide +kernel
theorem dL_isReel_426 : decode cL_isReel 426 = .ok (.iload 11, 2) := by decide +kernel
theorem dL_isReel_428 : decode cL_isReel 428 = .ok (.invokestatic 280, 3) := by decide +kernel
theorem dL_isReel_431 : decode cL_isReel 431 = .ok (.if_icmp .lt 7, 3) := by decide +kernel
theorem dL_isReel_434 : decode cL_isReel 434 = .ok (.iconst 1, 1) := by decide +kernel
theorem dL_isReel_435 : decode cL_isReel 435 = .ok (.goto 17, 3) := by decide +kernel
theorem dL_isReel_438 : decode cL_isReel 438 = .ok (.iconst 0, 1) := by decide +kernel
theorem dL_isReel_439 : decode cL_isReel 439 = .ok (.goto 13, 3) := by decide +kernel
theorem dL_isReel_442 : decode cL_isReel 442 = .ok (.iload 12, 2) := by decide +kernel
theorem dL_isReel_444 : decode cL_isReel 444 = .ok (.ifCond .ne 7, 3) := by decide +kernel
theorem dL_isReel_447 : decode cL_isReel 447 = .ok (.iconst 1, 1) := by decide +kernel
theorem dL_isReel_448 : decode cL_isReel 448 = .ok (.goto 4, 3) := by decide +kernel
theorem dL_isReel_451 : decode cL_isReel 451 = .ok (.iconst 0, 1) := by decide +kernel
theorem dL_isReel_452 : decode cL_isReel 452 = .ok (.istore 13, 2) := by decide +kernel
theorem dL_isReel_454 : decode cL_isReel 454 = .ok (.iload 4, 2) := by decide +kernel
theorem dL_isReel_456 : decode cL_isReel 456 = .ok (.ifCond .ne 8, 3) := by decide +kernel
theorem dL_isReel_459 : decode cL_isReel 459 = .ok (.ldc 154, 2) := by decide +kernel
theorem dL_isReel_461 : decode cL_isReel 461 = .ok (.goto 10, 3) := by decide +kernel
theorem dL_isReel_464 : decode cL_isReel 464 = .ok (.iload 12, 2) := by decide +kernel
theorem dL_isReel_466 : decode cL_isReel 466 = .ok (.i2f, 1) := by decide +kernel
theorem dL_isReel_467 : decode cL_isReel 467 = .ok (.iload 5, 2) := by decide +kernel
theorem dL_isReel_469 : decode cL_isReel 469 = .ok (.i2f, 1) := by decide +kernel
theorem dL_isReel_470 : decode cL_isReel 470 = .ok (.fdiv, 1) := by decide +kernel
theorem dL_isReel_471 : decode cL_isReel 471 = .ok (.fstore 14, 2) := by decide +kernel
theorem dL_isReel_473 : decode cL_isReel 473 = .ok (.iload 13, 2) := by decide +kernel
theorem dL_isReel_475 : decode cL_isReel 475 = .ok (.ifCond .eq 16, 3) := by decide +kernel
theorem dL_isReel_478 : decode cL_isReel 478 = .ok (.aload_n 0, 1) := by decide +kernel
theorem dL_isReel_479 : decode cL_isReel 479 = .ok (.iload_n 1, 1) := by decide +kernel
theorem dL_isReel_480 : decode cL_isReel 480 = .ok (.iload 10, 2) := by decide +kernel
theorem dL_isReel_482 : decode cL_isReel 482 = .ok (.invokestatic 298, 3) := by decide +kernel
theorem dL_isReel_485 : decode cL_isReel 485 = .ok (.fload 14, 2) := by decide +kernel
theorem dL_isReel_487 : decode cL_isReel 487 = .ok (.fcmp .l, 1) := by decide +kernel
theorem dL_isReel_488 : decode cL_isReel 488 = .ok (.ifCond .eq 5, 3) := by decide +kernel
theorem dL_isReel_491 : decode cL_isReel 491 = .ok (.iconst 0, 1) := by decide +kernel
theorem dL_isReel_492 : decode cL_isReel 492 = .ok (.ireturn, 1) := by decide +kernel
theorem dL_isReel_493 : decode cL_isReel 493 = .ok (.iinc 10 1, 3) := by decide +kernel
theorem dL_isReel_496 : decode cL_isReel 496 = .ok (.goto (-134), 3) := by decide +kernel
theorem dL_isReel_499 : decode cL_isReel 499 = .ok (.iconst 0, 1) := by decide +kernel
theorem dL_isReel_500 : decode cL_isReel 500 = .ok (.istore 10, 2) := by decide +kernel
theorem dL_isReel_502 : decode cL_isReel 502 = .ok (.aload_n 0, 1) := by decide +kernel
theorem dL_isReel_503 : decode cL_isReel 503 = .ok (.iload_n 1, 1) := by decide +kernel
theorem dL_isReel_504 : decode cL_isReel 504 = .ok (.iload 10, 2) := by decide +kernel
theorem dL_isReel_506 : decode cL_isReel 506 = .ok (.invokestatic 301, 3) := by decide +kernel
theorem dL_isReel_509 : decode cL_isReel 509 = .ok (.ifCond .lt 97, 3) := by decide +kernel
theorem dL_isReel_512 : decode cL_isReel 512 = .ok (.aload_n 0, 1) := by decide +kernel
theorem dL_isReel_513 : decode cL_isReel 513 = .ok (.iload_n 1, 1) := by decide +kernel
theorem dL_isReel_514 : decode cL_isReel 514 = .ok (.iload 10, 2) := by decide +kernel
theorem dL_isReel_516 : decode cL_isReel 516 = .ok (.invokestatic 301, 3) := by decide +kernel
theorem dL_isReel_519 : decode cL_isReel 519 = .ok (.istore 11, 2) := by decide +kernel
theorem dL_isReel_521 : decode cL_isReel 521 = .ok (.iload 10, 2) := by decide +kernel
theorem dL_isReel_523 : decode cL_isReel 523 = .ok (.ifCond .ne 8, 3) := by decide +kernel
theorem dL_isReel_526 : decode cL_isReel 526 = .ok (.iload 11, 2) := by decide +kernel
theorem dL_isReel_528 : decode cL_isReel 528 = .ok (.goto 12, 3) := by decide +kernel
theorem dL_isReel_531 : decode cL_isReel 531 = .ok (.aload_n 0, 1) := by decide +kernel
theorem dL_isReel_532 : decode cL_isReel 532 = .ok (.iload_n 1, 1) := by decide +kernel
theorem dL_isReel_533 : decode cL_isReel 533 = .ok (.iload 10, 2) := by decide +kernel
theorem dL_isReel_535 : decode cL_isReel 535 = .ok (.iconst 1, 1) := by decide +kernel
theorem dL_isReel_536 : decode cL_isReel 536 = .ok (.isub, 1) := by decide +kernel
theorem dL_isReel_537 : decode cL_isReel 537 = .ok (.invokestatic 301, 3) := by decide +kernel
theorem dL_isReel_540 : decode cL_isReel 540 = .ok (.istore 12, 2) := by decide +kernel
theorem dL_isReel_542 : decode cL_isReel 542 = .ok (.aload_n 0, 1) := by decide +kernel
theorem dL_isReel_543 : decode cL_isReel 543 = .ok (.iload_n 1, 1) := by decide +kernel
theorem dL_isReel_544 : decode cL_isReel 544 = .ok (.iload 11, 2) := by decide +kernel
theorem dL_isReel_546 : decode cL_isReel 546 = .ok (.invokestatic 296, 3) := by decide +kernel
theorem dL_isReel_549 : decode cL_isReel 549 = .ok (.ifCond .eq 49, 3) := by decide +kernel
theorem dL_isReel_552 : decode cL_isReel 552 = .ok (.aload_n 0, 1) := by decide +kernel
theorem dL_isReel_553 : decode cL_isReel 553 = .ok (.iload_n 1, 1) := by decide +kernel
theorem dL_isReel_554 : decode cL_isReel 554 = .ok (.iload 12, 2) := by decide +kernel
theorem dL_isReel_556 : decode cL_isReel 556 = .ok (.invokestatic 296, 3) := by decide +kernel
theorem dL_isReel_559 : decode cL_isReel 559 = .ok (.aload_n 0, 1) := by decide +kernel
theorem dL_isReel_560 : decode cL_isReel 560 = .ok (.iload_n 1, 1) := by decide +kernel
theorem dL_isReel_561 : decode cL_isReel 561 = .ok (.iload 11, 2) := by decide +kernel
theorem dL_isReel_563 : decode cL_isReel 563 = .ok (.invokestatic 296, 3) := by decide +kernel
theorem dL_isReel_566 : decode cL_isReel 566 = .ok (.if_icmp .lt 32, 3) := by decide +kernel
theorem dL_isReel_569 : decode cL_isReel 569 = .ok (.iload 10, 2) := by decide +kernel
theorem dL_isReel_571 : decode cL_isReel 571 = .ok (.ifCond .le 29, 3) := by decide +kernel
theorem dL_isReel_574 : decode cL_isReel 574 = .ok (.aload_n 0, 1) := by decide +kernel
theorem dL_isReel_575 : decode cL_isReel 575 = .ok (.iload_n 1, 1) := by decide +kernel
theorem dL_isReel_576 : decode cL_isReel 576 = .ok (.iload 12, 2) := by decide +kernel
theorem dL_isReel_578 : decode cL_isReel 578 = .ok (.invokestatic 296, 3) := by decide +kernel
theorem dL_isReel_581 : decode cL_isReel 581 = .ok (.aload_n 0, 1) := by decide +kernel
theorem dL_isReel_582 : decode cL_isReel 582 = .ok (.iload_n 1, 1) := by decide +kernel
theorem dL_isReel_583 : decode cL_isReel 583 = .ok (.iload 11, 2) := by decide +kernel
theorem dL_isReel_585 : decode cL_isReel 585 = .ok (.invokestatic 296, 3) := by decide +kernel
theorem dL_isReel_588 : decode cL_isReel 588 = .ok (.if_icmp .ne 12, 3) := by decide +kernel
theorem dL_isReel_591 : decode cL_isReel 591 = .ok (.iload 12, 2) := by decide +kernel
theorem dL_isReel_593 : decode cL_isReel 593 = .ok (.iload 11, 2) := by decide +kernel
theorem dL_isReel_595 : decode cL_isReel 595 = .ok (.if_icmp .le 5, 3) := by decide +kernel
theorem dL_isReel_598 : decode cL_isReel 598 = .ok (.iconst 0, 1) := by decide +kernel
theorem dL_isReel_599 : decode cL_isReel 599 = .ok (.ireturn, 1) := by decide +kernel
theorem dL_isReel_600 : decode cL_isReel 600 = .ok (.iinc 10 1, 3) := by decide +kernel
theorem dL_isReel_603 : decode cL_isReel 603 = .ok (.goto (-101), 3) := by decide +kernel
theorem dL_isReel_606 : decode cL_isReel 606 = .ok (.iconst 1, 1) := by decide +kernel
theorem dL_isReel_607 : decode cL_isReel 607 = .ok (.istore 11, 2) := by decide +kernel
theorem dL_isReel_609 : decode cL_isReel 609 = .ok (.iload 4, 2) := by decide +kernel
theorem dL_isReel_611 : decode cL_isReel 611 = .ok (.ifCond .le 160, 3) := by decide +kernel
theorem dL_isReel_614 : decode cL_isReel 614 = .ok (.aload_n 2, 1) := by decide +kernel
theorem dL_isReel_615 : decode cL_isReel 615 = .ok (.iload_n 3, 1) := by decide +kernel
theorem dL_isReel_616 : decode cL_isReel 616 = .ok (.iconst 1, 1) := by decide +kernel
theorem dL_isReel_617 : decode cL_isReel 617 = .ok (.iadd, 1) := by decide +kernel
theorem dL_isReel_618 : decode cL_isReel 618 = .ok (.iload 4, 2) := by decide +kernel
theorem dL_isReel_620 : decode cL_isReel 620 = .ok (.invokestatic 182, 3) := by decide +kernel
theorem dL_isReel_623 : decode cL_isReel 623 = .ok (.istore 12, 2) := by decide +kernel
theorem dL_isReel_625 : decode cL_isReel 625 = .ok (.iload 12, 2) := by decide +kernel
theorem dL_isReel_627 : decode cL_isReel 627 = .ok (.aload_n 2, 1) := by decide +kernel
theorem dL_isReel_628 : decode cL_isReel 628 = .ok (.iload_n 3, 1) := by decide +kernel
theorem dL_isReel_629 : decode cL_isReel 629 = .ok (.iconst 2, 1) := by decide +kernel
theorem dL_isReel_630 : decode cL_isReel 630 = .ok (.iadd, 1) := by decide +kernel
theorem dL_isReel_631 : decode cL_isReel 631 = .ok (.iload 4, 2) := by decide +kernel
theorem dL_isReel_633 : decode cL_isReel 633 = .ok (.iload 12, 2) := by decide +kernel
theorem dL_isReel_635 : decode cL_isReel 635 = .ok (.isub, 1) := by decide +kernel
theorem dL_isReel_636 : decode cL_isReel 636 = .ok (.invokestatic 182, 3) := by decide +kernel
theorem dL_isReel_639 : decode cL_isReel 639 = .ok (.iadd, 1) := by decide +kernel
theorem dL_isReel_640 : decode cL_isReel 640 = .ok (.istore 13, 2) := by decide +kernel
theorem dL_isReel_642 : decode cL_isReel 642 = .ok (.aload_n 0, 1) := by decide +kernel
theorem dL_isReel_643 : decode cL_isReel 643 = .ok (.iload_n 1, 1) := by decide +kernel
theorem dL_isReel_644 : decode cL_isReel 644 = .ok (.iload 12, 2) := by decide +kernel
theorem dL_isReel_646 : decode cL_isReel 646 = .ok (.iload 13, 2) := by decide +kernel
theorem dL_isReel_648 : decode cL_isReel 648 = .ok (.invokestatic 303, 3) := by decide +kernel
theorem dL_isReel_651 : decode cL_isReel 651 = .ok (.istore 14, 2) := by decide +kernel
theorem dL_isReel_653 : decode cL_isReel 653 = .ok (.aload_n 0, 1) := by decide +kernel
theorem dL_isReel_654 : decode cL_isReel 654 = .ok (.iload_n 1, 1) := by decide +kernel
theorem dL_isReel_655 : decode cL_isReel 655 = .ok (.iload 12, 2) := by decide +kernel
theorem dL_isReel_657 : decode cL_isReel 657 = .ok (.iload 13, 2) := by decide +kernel
theorem dL_isReel_659 : decode cL_isReel 659 = .ok (.invokestatic 305, 3) := by decide +kernel
theorem dL_isReel_662 : decode cL_isReel 662 = .ok (.aload_n 0, 1) := by decide +kernel
theorem dL_isReel_663 : decode cL_isReel 663 = .ok (.iload_n 1, 1) := by decide +kernel
theorem dL_isReel_664 : decode cL_isReel 664 = .ok (.iload 13, 2) := by decide +kernel
theorem dL_isReel_666 : decode cL_isReel 666 = .ok (.iconst 1, 1) := by decide +kernel
theorem dL_isReel_667 : decode cL_isReel 667 = .ok (.iadd, 1) := by decide +kernel
theorem dL_isReel_668 : decode cL_isReel 668 = .ok (.invokestatic 286, 3) := by decide +kernel
theorem dL_isReel_671 : decode cL_isReel 671 = .ok (.aload_n 0, 1) := by decide +kernel
theorem dL_isReel_672 : decode cL_isReel 672 = .ok (.iload_n 1, 1) := by decide +kernel
theorem dL_isReel_673 : decode cL_isReel 673 = .ok (.iload 12, 2) := by decide +kernel
theorem dL_isReel_675 : decode cL_isReel 675 = .ok (.invokestatic 286, 3) := by decide +kernel
theorem dL_isReel_678 : decode cL_isReel 678 = .ok (.isub, 1) := by decide +kernel
theorem dL_isReel_679 : decode cL_isReel 679 = .ok (.if_icmp .ne 21, 3) := by decide +kernel
theorem dL_isReel_682 : decode cL_isReel 682 = .ok (.iload 14, 2) := by decide +kernel
theorem dL_isReel_684 : decode cL_isReel 684 = .ok (.iload 12, 2) := by decide +kernel
theorem dL_isReel_686 : decode cL_isReel 686 = .ok (.if_icmp .lt 14, 3) := by decide +kernel
theorem dL_isReel_689 : decode cL_isReel 689 = .ok (.iload 14, 2) := by decide +kernel
theorem dL_isReel_691 : decode cL_isReel 691 = .ok (.iload 13, 2) := by decide +kernel
theorem dL_isReel_693 : decode cL_isReel 693 = .ok (.if_icmp .gt 7, 3) := by decide +kernel
theorem dL_isReel_696 : decode cL_isReel 696 = .ok (.iconst 1, 1) := by decide +kernel
theorem dL_isReel_697 : decode cL_isReel 697 = .ok (.goto 4, 3) := by decide +kernel
theorem dL_isReel_700 : decode cL_isReel 700 = .ok (.iconst 0, 1) := by decide +kernel
theorem dL_isReel_701 : decode cL_isReel 701 = .ok (.istore 11, 2) := by decide +kernel
theorem dL_isReel_703 : decode cL_isReel 703 = .ok (.iload 12, 2) := by decide +kernel
theorem dL_isReel_705 : decode cL_isReel 705 = .ok (.istore 15, 2) := by decide +kernel
theorem dL_isReel_707 : decode cL_isReel 707 = .ok (.iload 15, 2) := by decide +kernel
theorem dL_isReel_709 : decode cL_isReel 709 = .ok (.iload 13, 2) := by decide +kernel
theorem dL_isReel_711 : decode cL_isReel 711 = .ok (.if_icmp .gt 60, 3) := by decide +kernel
theorem dL_isReel_714 : decode cL_isReel 714 = .ok (.iload 11, 2) := by decide +kernel
theorem dL_isReel_716 : decode cL_isReel 716 = .ok (.aload_n 0, 1) := by decide +kernel
theorem dL_isReel_717 : decode cL_isReel 717 = .ok (.iload_n 1, 1) := by decide +kernel
theorem dL_isReel_718 : decode cL_isReel 718 = .ok (.iload 15, 2) := by decide +kernel
theorem dL_isReel_720 : decode cL_isReel 720 = .ok (.invokestatic 280, 3) := by decide +kernel
theorem dL_isReel_723 : decode cL_isReel 723 = .ok (.aload_n 0, 1) := by decide +kernel
theorem dL_isReel_724 : decode cL_isReel 724 = .ok (.iload_n 1, 1) := by decide +kernel
theorem dL_isReel_725 : decode cL_isReel 725 = .ok (.iload 14, 2) := by decide +kernel
theorem dL_isReel_727 : decode cL_isReel 727 = .ok (.invokestatic 280, 3) := by decide +kernel
theorem dL_isReel_730 : decode cL_isReel 730 = .ok (.if_icmp .lt 27, 3) := by decide +kernel
theorem dL_isReel_733 : decode cL_isReel 733 = .ok (.aload_n 0, 1) := by decide +kernel
theorem dL_isReel_734 : decode cL_isReel 734 = .ok (.iload_n 1, 1) := by decide +kernel
theorem dL_isReel_735 : decode cL_isReel 735 = .ok (.iload 15, 2) := by decide +kernel
theorem dL_isReel_737 : decode cL_isReel 737 = .ok (.invokestatic 280, 3) := by decide +kernel
theorem dL_isReel_740 : decode cL_isReel 740 = .ok (.aload_n 0, 1) := by decide +kernel
theorem dL_isReel_741 : decode cL_isReel 741 = .ok (.iload_n 1, 1) := by decide +kernel
theorem dL_isReel_742 : decode cL_isReel 742 = .ok (.iload 14, 2) := by decide +kernel
theorem dL_isReel_744 : decode cL_isReel 744 = .ok (.invokestatic 280, 3) := by decide +kernel
theorem dL_isReel_747 : decode cL_isReel 747 = .ok (.if_icmp .ne 14, 3) := by decide +kernel
theorem dL_isReel_750 : decode cL_isReel 750 = .ok (.iload 15, 2) := by decide +kernel
theorem dL_isReel_752 : decode cL_isReel 752 = .ok (.iload 14, 2) := by decide +kernel
theorem dL_isReel_754 : decode cL_isReel 754 = .ok (.if_icmp .lt 7, 3) := by decide +kernel
theorem dL_isReel_757 : decode cL_isReel 757 = .ok (.iconst 1, 1) := by decide +kernel
theorem dL_isReel_758 : decode cL_isReel 758 = .ok (.goto 4, 3) := by decide +kernel
theorem dL_isReel_761 : decode cL_isReel 761 = .ok (.iconst 0, 1) := by decide +kernel
theorem dL_isReel_762 : decode cL_isReel 762 = .ok (.iand, 1) := by decide +kernel
theorem dL_isReel_763 : decode cL_isReel 763 = .ok (.istore 11, 2) := by decide +kernel
theorem dL_isReel_765 : decode cL_isReel 765 = .ok (.iinc 15 1, 3) := by decide +kernel
theorem dL_isReel_768 : decode cL_isReel 768 = .ok (.goto (-61), 3) := by decide +kernel
theorem dL_isReel_771 : decode cL_isReel 771 = .ok (.aload_n 0, 1) := by decide +kernel
theorem dL_isReel_772 : decode cL_isReel 772 = .ok (.iload_n 1, 1) := by decide +kernel
theorem dL_isReel_773 : decode cL_isReel 773 = .ok (.invokestatic 188, 3) := by decide +kernel
theorem dL_isReel_776 : decode cL_isReel 776 = .ok (.iload 5, 2) := by decide +kernel
theorem dL_isReel_778 : decode cL_isReel 778 = .ok (.if_icmp .ne 65, 3) := by decide +kernel
theorem dL_isReel_781 : decode cL_isReel 781 = .ok (.aload_n 0, 1) := by decide +kernel
theorem dL_isReel_782 : decode cL_isReel 782 = .ok (.iload_n 1, 1) := by decide +kernel
theorem dL_isReel_783 : decode cL_isReel 783 = .ok (.iload 4, 2) := by decide +kernel
theorem dL_isReel_785 : decode cL_isReel 785 = .ok (.invokestatic 286, 3) := by decide +kernel
theorem dL_isReel_788 : decode cL_isReel 788 = .ok (.iload 5, 2) := by decide +kernel
theorem dL_isReel_790 : decode cL_isReel 790 = .ok (.if_icmp .ne 53, 3) := by decide +kernel
theorem dL_isReel_793 : decode cL_isReel 793 = .ok (.iload 9, 2) := by decide +kernel
theorem dL_isReel_795 : decode cL_isReel 795 = .ok (.iload 5, 2) := by decide +kernel
theorem dL_isReel_797 : decode cL_isReel 797 = .ok (.if_icmp .ne 46, 3) := by decide +kernel
theorem dL_isReel_800 : decode cL_isReel 800 = .ok (.aload_n 0, 1) := by decide +kernel
theorem dL_isReel_801 : decode cL_isReel 801 = .ok (.iload_n 1, 1) := by decide +kernel
theorem dL_isReel_802 : decode cL_isReel 802 = .ok (.iload 5, 2) := by decide +kernel
theorem dL_isReel_804 : decode cL_isReel 804 = .ok (.invokestatic 290, 3) := by decide +kernel
theorem dL_isReel_807 : decode cL_isReel 807 = .ok (.bipush (-75), 2) := by decide +kernel
theorem dL_isReel_809 : decode cL_isReel 809 = .ok (.if_icmp .ne 34, 3) := by decide +kernel
theorem dL_isReel_812 : decode cL_isReel 812 = .ok (.aload_n 0, 1) := by decide +kernel
theorem dL_isReel_813 : decode cL_isReel 813 = .ok (.iload_n 1, 1) := by decide +kernel
theorem dL_isReel_814 : decode cL_isReel 814 = .ok (.invokestatic 307, 3) := by decide +kernel
theorem dL_isReel_817 : decode cL_isReel 817 = .ok (.iload 4, 2) := by decide +kernel
theorem dL_isReel_819 : decode cL_isReel 819 = .ok (.ifCond .ne 9, 3) := by decide +kernel
theorem dL_isReel_822 : decode cL_isReel 822 = .ok (.ldc2_w 146, 3) := by decide +kernel
theorem dL_isReel_825 : decode cL_isReel 825 = .ok (.goto 10, 3) := by decide +kernel
theorem dL_isReel_828 : decode cL_isReel 828 = .ok (.iload 5, 2) := by decide +kernel
theorem dL_isReel_830 : decode cL_isReel 830 = .ok (.i2d, 1) := by decide +kernel
theorem dL_isReel_831 : decode cL_isReel 831 = .ok (.iload 4, 2) := by decide +kernel
theorem dL_isReel_833 : decode cL_isReel 833 = .ok (.i2d, 1) := by decide +kernel
theorem dL_isReel_834 : decode cL_isReel 834 = .ok (.ddiv, 1) := by decide +kernel
theorem dL_isReel_835 : decode cL_isReel 835 = .ok (.dcmp .l, 1) := by decide +kernel
theorem dL_isReel_836 : decode cL_isReel 836 = .ok (.ifCond .ne 7, 3) := by decide +kernel
theorem dL_isReel_839 : decode cL_isReel 839 = .ok (.iconst 1, 1) := by decide +kernel
theorem dL_isReel_840 : decode cL_isReel 840 = .ok (.goto 4, 3) := by decide +kernel
theorem dL_isReel_843 : decode cL_isReel 843 = .ok (.iconst 0, 1) := by decide +kernel
theorem dL_isReel_844 : decode cL_isReel 844 = .ok (.istore 12, 2) := by decide +kernel
theorem dL_isReel_846 : decode cL_isReel 846 = .ok (.aload_n 0, 1) := by decide +kernel
theorem dL_isReel_847 : decode cL_isReel 847 = .ok (.iload_n 1, 1) := by decide +kernel
theorem dL_isReel_848 : decode cL_isReel 848 = .ok (.invokestatic 310, 3) := by decide +kernel
theorem dL_isReel_851 : decode cL_isReel 851 = .ok (.iload 6, 2) := by decide +kernel
theorem dL_isReel_853 : decode cL_isReel 853 = .ok (.if_icmp .ne 27, 3) := by decide +kernel
theorem dL_isReel_856 : decode cL_isReel 856 = .ok (.aload_n 0, 1) := by decide +kernel
theorem dL_isReel_857 : decode cL_isReel 857 = .ok (.iload_n 1, 1) := by decide +kernel
theorem dL_isReel_858 : decode cL_isReel 858 = .ok (.invokestatic 312, 3) := by decide +kernel
theorem dL_isReel_861 : decode cL_isReel 861 = .ok (.iload 6, 2) := by decide +kernel
theorem dL_isReel_863 : decode cL_isReel 863 = .ok (.if_icmp .ne 17, 3) := by decide +kernel
theorem dL_isReel_866 : decode cL_isReel 866 = .ok (.aload_n 0, 1) := by decide +kernel
theorem dL_isReel_867 : decode cL_isReel 867 = .ok (.iload_n 1, 1) := by decide +kernel
theorem dL_isReel_868 : decode cL_isReel 868 = .ok (.invokestatic 314, 3) := by decide +kernel
theorem dL_isReel_871 : decode cL_isReel 871 = .ok (.iload 8, 2) := by decide +kernel
theorem dL_isReel_873 : decode cL_isReel 873 = .ok (.if_icmp .ne 7, 3) := by decide +kernel
theorem dL_isReel_876 : decode cL_isReel 876 = .ok (.iconst 1, 1) := by decide +kernel
theorem dL_isReel_877 : decode cL_isReel 877 = .ok (.goto 4, 3) := by decide +kernel
theorem dL_isReel_880 : decode cL_isReel 880 = .ok (.iconst 0, 1) := by decide +kernel
theorem dL_isReel_881 : decode cL_isReel 881 = .ok (.istore 13, 2) := by decide +kernel
theorem dL_isReel_883 : decode cL_isReel 883 = .ok (.aload_n 0, 1) := by decide +kernel
theorem dL_isReel_884 : decode cL_isReel 884 = .ok (.iload_n 1, 1) := by decide +kernel
theorem dL_isReel_885 : decode cL_isReel 885 = .ok (.invokestatic 316, 3) := by decide +kernel
theorem dL_isReel_888 : decode cL_isReel 888 = .ok (.istore 14, 2) := by decide +kernel
theorem dL_isReel_890 : decode cL_isReel 890 = .ok (.iload 11, 2) := by decide +kernel
theorem dL_isReel_892 : decode cL_isReel 892 = .ok (.ifCond .eq 94, 3) := by decide +kernel
theorem dL_isReel_895 : decode cL_isReel 895 = .ok (.iload 12, 2) := by decide +kernel
theorem dL_isReel_897 : decode cL_isReel 897 = .ok (.ifCond .eq 89, 3) := by decide +kernel
theorem dL_isReel_900 : decode cL_isReel 900 = .ok (.iload 13, 2) := by decide +kernel
theorem dL_isReel_902 : decode cL_isReel 902 = .ok (.ifCond .eq 84, 3) := by decide +kernel
theorem dL_isReel_905 : decode cL_isReel 905 = .ok (.aload_n 0, 1) := by decide +kernel
theorem dL_isReel_906 : decode cL_isReel 906 = .ok (.iload_n 1, 1) := by decide +kernel
theorem dL_isReel_907 : decode cL_isReel 907 = .ok (.iload 4, 2) := by decide +kernel
theorem dL_isReel_909 : decode cL_isReel 909 = .ok (.invokestatic 284, 3) := by decide +kernel
theorem dL_isReel_912 : decode cL_isReel 912 = .ok (.bipush (-75), 2) := by decide +kernel
theorem dL_isReel_914 : decode cL_isReel 914 = .ok (.if_icmp .ne 72, 3) := by decide +kernel
theorem dL_isReel_917 : decode cL_isReel 917 = .ok (.iload 4, 2) := by decide +kernel
theorem dL_isReel_919 : decode cL_isReel 919 = .ok (.bipush 60, 2) := by decide +kernel
theorem dL_isReel_921 : decode cL_isReel 921 = .ok (.if_icmp .gt 65, 3) := by decide +kernel
theorem dL_isReel_924 : decode cL_isReel 924 = .ok (.iload 4, 2) := by decide +kernel
theorem dL_isReel_926 : decode cL_isReel 926 = .ok (.ifCond .ne 11, 3) := by decide +kernel
theorem dL_isReel_929 : decode cL_isReel 929 = .ok (.iload 14, 2) := by decide +kernel
theorem dL_isReel_931 : decode cL_isReel 931 = .ok (.ifCond .ne 55, 3) := by decide +kernel
theorem dL_isReel_934 : decode cL_isReel 934 = .ok (.goto 48, 3) := by decide +kernel
theorem dL_isReel_937 : decode cL_isReel 937 = .ok (.iload 14, 2) := by decide +kernel
theorem dL_isReel_939 : decode cL_isReel 939 = .ok (.iconst 3, 1) := by decide +kernel
theorem dL_isReel_940 : decode cL_isReel 940 = .ok (.iload 4, 2) := by decide +kernel
theorem dL_isReel_942 : decode cL_isReel 942 = .ok (.imul, 1) := by decide +kernel
theorem dL_isReel_943 : decode cL_isReel 943 = .ok (.iconst 1, 1) := by decide +kernel
theorem dL_isReel_944 : decode cL_isReel 944 = .ok (.isub, 1) := by decide +kernel
theorem dL_isReel_945 : decode cL_isReel 945 = .ok (.if_icmp .lt 41, 3) := by decide +kernel
theorem dL_isReel_948 : decode cL_isReel 948 = .ok (.iload 14, 2) := by decide +kernel
theorem dL_isReel_950 : decode cL_isReel 950 = .ok (.iconst 4, 1) := by decide +kernel
theorem dL_isReel_951 : decode cL_isReel 951 = .ok (.iload 4, 2) := by decide +kernel
theorem dL_isReel_953 : decode cL_isReel 953 = .ok (.imul, 1) := by decide +kernel
theorem dL_isReel_954 : decode cL_isReel 954 = .ok (.iconst 1, 1) := by decide +kernel
theorem dL_isReel_955 : decode cL_isReel 955 = .ok (.isub, 1) := by decide +kernel
theorem dL_isReel_956 : decode cL_isReel 956 = .ok (.if_icmp .gt 30, 3) := by decide +kernel
theorem dL_isReel_959 : decode cL_isReel 959 = .ok (.aload_n 0, 1) := by decide +kernel
theorem dL_isReel_960 : decode cL_isReel 960 = .ok (.iload 14, 2) := by decide +kernel
theorem dL_isReel_962 : decode cL_isReel 962 = .ok (.iconst 1, 1) := by decide +kernel
theorem dL_isReel_963 : decode cL_isReel 963 = .ok (.isub, 1) := by decide +kernel
theorem dL_isReel_964 : decode cL_isReel 964 = .ok (.invokestatic 174, 3) := by decide +kernel
theorem dL_isReel_967 : decode cL_isReel 967 = .ok (.bipush 97, 2) := by decide +kernel
theorem dL_isReel_969 : decode cL_isReel 969 = .ok (.aload_n 0, 1) := by decide +kernel
theorem dL_isReel_970 : decode cL_isReel 970 = .ok (.iload_n 1, 1) := by decide +kernel
theorem dL_isReel_971 : decode cL_isReel 971 = .ok (.iload 4, 2) := by decide +kernel
theorem dL_isReel_973 : decode cL_isReel 973 = .ok (.iconst 1, 1) := by decide +kernel
theorem dL_isReel_974 : decode cL_isReel 974 = .ok (.isub, 1) := by decide +kernel
theorem dL_isReel_975 : decode cL_isReel 975 = .ok (.invokestatic 282, 3) := by decide +kernel
theorem dL_isReel_978 : decode cL_isReel 978 = .ok (.iadd, 1) := by decide +kernel
theorem dL_isReel_979 : decode cL_isReel 979 = .ok (.if_icmp .ne 7, 3) := by decide +kernel
theorem dL_isReel_982 : decode cL_isReel 982 = .ok (.iconst 1, 1) := by decide +kernel
theorem dL_isReel_983 : decode cL_isReel 983 = .ok (.goto 4, 3) := by decide +kernel
theorem dL_isReel_986 : decode cL_isReel 986 = .ok (.iconst 0, 1) := by decide +kernel
theorem dL_isReel_987 : decode cL_isReel 987 = .ok (.ireturn, 1) := by decide +kernel
