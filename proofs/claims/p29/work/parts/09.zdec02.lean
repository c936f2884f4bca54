theorem dL_ticks_222 : decode cL_ticks 222 = .ok (.invokestatic 27, 3) := by decide +kernel
theorem dL_ticks_225 : decode cL_ticks 225 = .ok (.iinc 9 1, 3) := by decide +kernel
theorem dL_ticks_228 : decode cL_ticks 228 = .ok (.goto (-204), 3) := by decide +kernel
theorem dL_ticks_231 : decode cL_ticks 231 = .ok (.iconst 0, 1) := by decide +kernel
theorem dL_ticks_232 : decode cL_ticks 232 = .ok (.istore 9, 2) := by decide +kernel
theorem dL_ticks_234 : decode cL_ticks 234 = .ok (.iload 9, 2) := by decide +kernel
theorem dL_ticks_236 : decode cL_ticks 236 = .ok (.aload_n 0, 1) := by decide +kernel
theorem dL_ticks_237 : decode cL_ticks 237 = .ok (.bipush 18, 2) := by decide +kernel
theorem dL_ticks_239 : decode cL_ticks 239 = .ok (.iaload, 1) := by decide +kernel
theorem dL_ticks_240 : decode cL_ticks 240 = .ok (.if_icmp .ge 88, 3) := by decide +kernel
theorem dL_ticks_243 : decode cL_ticks 243 = .ok (.aload_n 2, 1) := by decide +kernel
theorem dL_ticks_244 : decode cL_ticks 244 = .ok (.iload 9, 2) := by decide +kernel
theorem dL_ticks_246 : decode cL_ticks 246 = .ok (.iaload, 1) := by decide +kernel
theorem dL_ticks_247 : decode cL_ticks 247 = .ok (.aload_n 0, 1) := by decide +kernel
theorem dL_ticks_248 : decode cL_ticks 248 = .ok (.iconst 2, 1) := by decide +kernel
theorem dL_ticks_249 : decode cL_ticks 249 = .ok (.iaload, 1) := by decide +kernel
theorem dL_ticks_250 : decode cL_ticks 250 = .ok (.idiv, 1) := by decide +kernel
theorem dL_ticks_251 : decode cL_ticks 251 = .ok (.istore 10, 2) := by decide +kernel
theorem dL_ticks_253 : decode cL_ticks 253 = .ok (.aload_n 2, 1) := by decide +kernel
theorem dL_ticks_254 : decode cL_ticks 254 = .ok (.iload 9, 2) := by decide +kernel
theorem dL_ticks_256 : decode cL_ticks 256 = .ok (.dup2, 1) := by decide +kernel
theorem dL_ticks_257 : decode cL_ticks 257 = .ok (.iaload, 1) := by decide +kernel
theorem dL_ticks_258 : decode cL_ticks 258 = .ok (.iload 10, 2) := by decide +kernel
theorem dL_ticks_260 : decode cL_ticks 260 = .ok (.aload_n 0, 1) := by decide +kernel
theorem dL_ticks_261 : decode cL_ticks 261 = .ok (.iconst 2, 1) := by decide +kernel
theorem dL_ticks_262 : decode cL_ticks 262 = .ok (.iaload, 1) := by decide +kernel
theorem dL_ticks_263 : decode cL_ticks 263 = .ok (.imul, 1) := by decide +kernel
theorem dL_ticks_264 : decode cL_ticks 264 = .ok (.isub, 1) := by decide +kernel
theorem dL_ticks_265 : decode cL_ticks 265 = .ok (.iastore, 1) := by decide +kernel
theorem dL_ticks_266 : decode cL_ticks 266 = .ok (.aload_n 1, 1) := by decide +kernel
theorem dL_ticks_267 : decode cL_ticks 267 = .ok (.bipush 10, 2) := by decide +kernel
theorem dL_ticks_269 : decode cL_ticks 269 = .ok (.iload 9, 2) := by decide +kernel
theorem dL_ticks_271 : decode cL_ticks 271 = .ok (.iadd, 1) := by decide +kernel
theorem dL_ticks_272 : decode cL_ticks 272 = .ok (.iaload, 1) := by decide +kernel
theorem dL_ticks_273 : decode cL_ticks 273 = .ok (.iload 10, 2) := by decide +kernel
theorem dL_ticks_275 : decode cL_ticks 275 = .ok (.iadd, 1) := by decide +kernel
theorem dL_ticks_276 : decode cL_ticks 276 = .ok (.bipush 60, 2) := by decide +kernel
theorem dL_ticks_278 : decode cL_ticks 278 = .ok (.if_icmp .le 16, 3) := by decide +kernel
theorem dL_ticks_281 : decode cL_ticks 281 = .ok (.bipush 60, 2) := by decide +kernel
theorem dL_ticks_283 : decode cL_ticks 283 = .ok (.aload_n 1, 1) := by decide +kernel
theorem dL_ticks_284 : decode cL_ticks 284 = .ok (.bipush 10, 2) := by decide +kernel
theorem dL_ticks_286 : decode cL_ticks 286 = .ok (.iload 9, 2) := by decide +kernel
theorem dL_ticks_288 : decode cL_ticks 288 = .ok (.iadd, 1) := by decide +kernel
theorem dL_ticks_289 : decode cL_ticks 289 = .ok (.iaload, 1) := by decide +kernel
theorem dL_ticks_290 : decode cL_ticks 290 = .ok (.isub, 1) := by decide +kernel
theorem dL_ticks_291 : decode cL_ticks 291 = .ok (.goto 5, 3) := by decide +kernel
theorem dL_ticks_294 : decode cL_ticks 294 = .ok (.iload 10, 2) := by decide +kernel
theorem dL_ticks_296 : decode cL_ticks 296 = .ok (.istore 10, 2) := by decide +kernel
theorem dL_ticks_298 : decode cL_ticks 298 = .ok (.aload_n 1, 1) := by decide +kernel
theorem dL_ticks_299 : decode cL_ticks 299 = .ok (.bipush 10, 2) := by decide +kernel
theorem dL_ticks_301 : decode cL_ticks 301 = .ok (.iload 9, 2) := by decide +kernel
theorem dL_ticks_303 : decode cL_ticks 303 = .ok (.iadd, 1) := by decide +kernel
theorem dL_ticks_304 : decode cL_ticks 304 = .ok (.dup2, 1) := by decide +kernel
theorem dL_ticks_305 : decode cL_ticks 305 = .ok (.iaload, 1) := by decide +kernel
theorem dL_ticks_306 : decode cL_ticks 306 = .ok (.iload 10, 2) := by decide +kernel
theorem dL_ticks_308 : decode cL_ticks 308 = .ok (.iadd, 1) := by decide +kernel
theorem dL_ticks_309 : decode cL_ticks 309 = .ok (.iastore, 1) := by decide +kernel
theorem dL_ticks_310 : decode cL_ticks 310 = .ok (.aload_n 2, 1) := by decide +kernel
theorem dL_ticks_311 : decode cL_ticks 311 = .ok (.bipush 25, 2) := by decide +kernel
theorem dL_ticks_313 : decode cL_ticks 313 = .ok (.iload 9, 2) := by decide +kernel
theorem dL_ticks_315 : decode cL_ticks 315 = .ok (.iadd, 1) := by decide +kernel
theorem dL_ticks_316 : decode cL_ticks 316 = .ok (.dup2, 1) := by decide +kernel
theorem dL_ticks_317 : decode cL_ticks 317 = .ok (.iaload, 1) := by decide +kernel
theorem dL_ticks_318 : decode cL_ticks 318 = .ok (.iload 10, 2) := by decide +kernel
theorem dL_ticks_320 : decode cL_ticks 320 = .ok (.iadd, 1) := by decide +kernel
theorem dL_ticks_321 : decode cL_ticks 321 = .ok (.iastore, 1) := by decide +kernel
theorem dL_ticks_322 : decode cL_ticks 322 = .ok (.iinc 9 1, 3) := by decide +kernel
theorem dL_ticks_325 : decode cL_ticks 325 = .ok (.goto (-91), 3) := by decide +kernel
theorem dL_ticks_328 : decode cL_ticks 328 = .ok (.aload_n 0, 1) := by decide +kernel
theorem dL_ticks_329 : decode cL_ticks 329 = .ok (.bipush 6, 2) := by decide +kernel
theorem dL_ticks_331 : decode cL_ticks 331 = .ok (.dup2, 1) := by decide +kernel
theorem dL_ticks_332 : decode cL_ticks 332 = .ok (.iaload, 1) := by decide +kernel
theorem dL_ticks_333 : decode cL_ticks 333 = .ok (.iconst 1, 1) := by decide +kernel
theorem dL_ticks_334 : decode cL_ticks 334 = .ok (.iadd, 1) := by decide +kernel
theorem dL_ticks_335 : decode cL_ticks 335 = .ok (.iastore, 1) := by decide +kernel
theorem dL_ticks_336 : decode cL_ticks 336 = .ok (.aload_n 0, 1) := by decide +kernel
theorem dL_ticks_337 : decode cL_ticks 337 = .ok (.bipush 6, 2) := by decide +kernel
theorem dL_ticks_339 : decode cL_ticks 339 = .ok (.iaload, 1) := by decide +kernel
theorem dL_ticks_340 : decode cL_ticks 340 = .ok (.bipush 12, 2) := by decide +kernel
theorem dL_ticks_342 : decode cL_ticks 342 = .ok (.aload_n 0, 1) := by decide +kernel
theorem dL_ticks_343 : decode cL_ticks 343 = .ok (.iconst 3, 1) := by decide +kernel
theorem dL_ticks_344 : decode cL_ticks 344 = .ok (.iaload, 1) := by decide +kernel
theorem dL_ticks_345 : decode cL_ticks 345 = .ok (.imul, 1) := by decide +kernel
theorem dL_ticks_346 : decode cL_ticks 346 = .ok (.irem, 1) := by decide +kernel
theorem dL_ticks_347 : decode cL_ticks 347 = .ok (.ifCond .gt 8, 3) := by decide +kernel
theorem dL_ticks_350 : decode cL_ticks 350 = .ok (.iload 5, 2) := by decide +kernel
theorem dL_ticks_352 : decode cL_ticks 352 = .ok (.ifCond .eq 7, 3) := by decide +kernel
theorem dL_ticks_355 : decode cL_ticks 355 = .ok (.iconst 1, 1) := by decide +kernel
theorem dL_ticks_356 : decode cL_ticks 356 = .ok (.goto 4, 3) := by decide +kernel
theorem dL_ticks_359 : decode cL_ticks 359 = .ok (.iconst 0, 1) := by decide +kernel
theorem dL_ticks_360 : decode cL_ticks 360 = .ok (.istore 7, 2) := by decide +kernel
theorem dL_ticks_362 : decode cL_ticks 362 = .ok (.aload_n 0, 1) := by decide +kernel
theorem dL_ticks_363 : decode cL_ticks 363 = .ok (.bipush 6, 2) := by decide +kernel
theorem dL_ticks_365 : decode cL_ticks 365 = .ok (.iaload, 1) := by decide +kernel
theorem dL_ticks_366 : decode cL_ticks 366 = .ok (.bipush 12, 2) := by decide +kernel
theorem dL_ticks_368 : decode cL_ticks 368 = .ok (.aload_n 0, 1) := by decide +kernel
theorem dL_ticks_369 : decode cL_ticks 369 = .ok (.iconst 3, 1) := by decide +kernel
theorem dL_ticks_370 : decode cL_ticks 370 = .ok (.iaload, 1) := by decide +kernel
theorem dL_ticks_371 : decode cL_ticks 371 = .ok (.imul, 1) := by decide +kernel
theorem dL_ticks_372 : decode cL_ticks 372 = .ok (.irem, 1) := by decide +kernel
theorem dL_ticks_373 : decode cL_ticks 373 = .ok (.ifCond .ne 15, 3) := by decide +kernel
theorem dL_ticks_376 : decode cL_ticks 376 = .ok (.iload 5, 2) := by decide +kernel
theorem dL_ticks_378 : decode cL_ticks 378 = .ok (.ifCond .eq 10, 3) := by decide +kernel
theorem dL_ticks_381 : decode cL_ticks 381 = .ok (.aload_n 0, 1) := by decide +kernel
theorem dL_ticks_382 : decode cL_ticks 382 = .ok (.aload_n 1, 1) := by decide +kernel
theorem dL_ticks_383 : decode cL_ticks 383 = .ok (.aload_n 2, 1) := by decide +kernel
theorem dL_ticks_384 : decode cL_ticks 384 = .ok (.aload_n 3, 1) := by decide +kernel
theorem dL_ticks_385 : decode cL_ticks 385 = .ok (.invokestatic 31, 3) := by decide +kernel
theorem dL_ticks_388 : decode cL_ticks 388 = .ok (.iinc 8 1, 3) := by decide +kernel
theorem dL_ticks_391 : decode cL_ticks 391 = .ok (.goto (-382), 3) := by decide +kernel
theorem dL_ticks_394 : decode cL_ticks 394 = .ok (.aload_n 0, 1) := by decide +kernel
theorem dL_ticks_395 : decode cL_ticks 395 = .ok (.bipush 11, 2) := by decide +kernel
theorem dL_ticks_397 : decode cL_ticks 397 = .ok (.dup2, 1) := by decide +kernel
theorem dL_ticks_398 : decode cL_ticks 398 = .ok (.iaload, 1) := by decide +kernel
theorem dL_ticks_399 : decode cL_ticks 399 = .ok (.iload 6, 2) := by decide +kernel
theorem dL_ticks_401 : decode cL_ticks 401 = .ok (.iadd, 1) := by decide +kernel
theorem dL_ticks_402 : decode cL_ticks 402 = .ok (.iastore, 1) := by decide +kernel
theorem dL_ticks_403 : decode cL_ticks 403 = .ok (.iload 6, 2) := by decide +kernel
theorem dL_ticks_405 : decode cL_ticks 405 = .ok (.ireturn, 1) := by decide +kernel
theorem dL_noon_0 : decode cL_noon 0 = .ok (.bipush 24, 2) := by decide +kernel
theorem dL_noon_2 : decode cL_noon 2 = .ok (.istore 4, 2) := by decide +kernel
theorem dL_noon_4 : decode cL_noon 4 = .ok (.iload 4, 2) := by decide +kernel
theorem dL_noon_6 : decode cL_noon 6 = .ok (.bipush 6, 2) := by decide +kernel
theorem dL_noon_8 : decode cL_noon 8 = .ok (.if_icmp .le 20, 3) := by decide +kernel
theorem dL_noon_11 : decode cL_noon 11 = .ok (.aload_n 3, 1) := by decide +kernel
theorem dL_noon_12 : decode cL_noon 12 = .ok (.iload 4, 2) := by decide +kernel
theorem dL_noon_14 : decode cL_noon 14 = .ok (.aload_n 3, 1) := by decide +kernel
theorem dL_noon_15 : decode cL_noon 15 = .ok (.iload 4, 2) := by decide +kernel
theorem dL_noon_17 : decode cL_noon 17 = .ok (.bipush 6, 2) := by decide +kernel
theorem dL_noon_19 : decode cL_noon 19 = .ok (.isub, 1) := by decide +kernel
theorem dL_noon_20 : decode cL_noon 20 = .ok (.iaload, 1) := by decide +kernel
theorem dL_noon_21 : decode cL_noon 21 = .ok (.iastore, 1) := by decide +kernel
theorem dL_noon_22 : decode cL_noon 22 = .ok (.iinc 4 (-1), 3) := by decide +kernel
theorem dL_noon_25 : decode cL_noon 25 = .ok (.goto (-21), 3) := by decide +kernel
theorem dL_noon_28 : decode cL_noon 28 = .ok (.aload_n 3, 1) := by decide +kernel
theorem dL_noon_29 : decode cL_noon 29 = .ok (.iconst 0, 1) := by decide +kernel
theorem dL_noon_30 : decode cL_noon 30 = .ok (.dup2, 1) := by decide +kernel
theorem dL_noon_31 : decode cL_noon 31 = .ok (.iaload, 1) := by decide +kernel
theorem dL_noon_32 : decode cL_noon 32 = .ok (.aload_n 3, 1) := by decide +kernel
theorem dL_noon_33 : decode cL_noon 33 = .ok (.iconst 0, 1) := by decide +kernel
theorem dL_noon_34 : decode cL_noon 34 = .ok (.iaload, 1) := by decide +kernel
theorem dL_noon_35 : decode cL_noon 35 = .ok (.iconst 4, 1) := by decide +kernel
theorem dL_noon_36 : decode cL_noon 36 = .ok (.if_icmp .ge 7, 3) := by decide +kernel
theorem dL_noon_39 : decode cL_noon 39 = .ok (.iconst 1, 1) := by decide +kernel
theorem dL_noon_40 : decode cL_noon 40 = .ok (.goto 4, 3) := by decide +kernel
theorem dL_noon_43 : decode cL_noon 43 = .ok (.iconst 0, 1) := by decide +kernel
theorem dL_noon_44 : decode cL_noon 44 = .ok (.iadd, 1) := by decide +kernel
theorem dL_noon_45 : decode cL_noon 45 = .ok (.iastore, 1) := by decide +kernel
theorem dL_noon_46 : decode cL_noon 46 = .ok (.aload_n 3, 1) := by decide +kernel
theorem dL_noon_47 : decode cL_noon 47 = .ok (.iconst 1, 1) := by decide +kernel
theorem dL_noon_48 : decode cL_noon 48 = .ok (.aload_n 0, 1) := by decide +kernel
theorem dL_noon_49 : decode cL_noon 49 = .ok (.bipush 18, 2) := by decide +kernel
theorem dL_noon_51 : decode cL_noon 51 = .ok (.iaload, 1) := by decide +kernel
theorem dL_noon_52 : decode cL_noon 52 = .ok (.iastore, 1) := by decide +kernel
theorem dL_noon_53 : decode cL_noon 53 = .ok (.aload_n 0, 1) := by decide +kernel
theorem dL_noon_54 : decode cL_noon 54 = .ok (.bipush 13, 2) := by decide +kernel
theorem dL_noon_56 : decode cL_noon 56 = .ok (.dup2, 1) := by decide +kernel
theorem dL_noon_57 : decode cL_noon 57 = .ok (.iaload, 1) := by decide +kernel
theorem dL_noon_58 : decode cL_noon 58 = .ok (.iconst 1, 1) := by decide +kernel
theorem dL_noon_59 : decode cL_noon 59 = .ok (.iadd, 1) := by decide +kernel
theorem dL_noon_60 : decode cL_noon 60 = .ok (.iastore, 1) := by decide +kernel
theorem dL_noon_61 : decode cL_noon 61 = .ok (.iconst 0, 1) := by decide +kernel
theorem dL_noon_62 : decode cL_noon 62 = .ok (.istore 4, 2) := by decide +kernel
theorem dL_noon_64 : decode cL_noon 64 = .ok (.iload 4, 2) := by decide +kernel
theorem dL_noon_66 : decode cL_noon 66 = .ok (.aload_n 0, 1) := by decide +kernel
theorem dL_noon_67 : decode cL_noon 67 = .ok (.bipush 18, 2) := by decide +kernel
theorem dL_noon_69 : decode cL_noon 69 = .ok (.iaload, 1) := by decide +kernel
theorem dL_noon_70 : decode cL_noon 70 = .ok (.if_icmp .ge 83, 3) := by decide +kernel
theorem dL_noon_73 : decode cL_noon 73 = .ok (.aload_n 3, 1) := by decide +kernel
theorem dL_noon_74 : decode cL_noon 74 = .ok (.iconst 2, 1) := by decide +kernel
theorem dL_noon_75 : decode cL_noon 75 = .ok (.iload 4, 2) := by decide +kernel
theorem dL_noon_77 : decode cL_noon 77 = .ok (.iadd, 1) := by decide +kernel
theorem dL_noon_78 : decode cL_noon 78 = .ok (.aload_n 0, 1) := by decide +kernel
theorem dL_noon_79 : decode cL_noon 79 = .ok (.aload_n 1, 1) := by decide +kernel
theorem dL_noon_80 : decode cL_noon 80 = .ok (.aload_n 2, 1) := by decide +kernel
theorem dL_noon_81 : decode cL_noon 81 = .ok (.iload 4, 2) := by decide +kernel
theorem dL_noon_83 : decode cL_noon 83 = .ok (.invokestatic 15, 3) := by decide +kernel
theorem dL_noon_86 : decode cL_noon 86 = .ok (.iastore, 1) := by decide +kernel
theorem dL_noon_87 : decode cL_noon 87 = .ok (.aload_n 0, 1) := by decide +kernel
theorem dL_noon_88 : decode cL_noon 88 = .ok (.aload_n 1, 1) := by decide +kernel
theorem dL_noon_89 : decode cL_noon 89 = .ok (.aload_n 2, 1) := by decide +kernel
theorem dL_noon_90 : decode cL_noon 90 = .ok (.iload 4, 2) := by decide +kernel
theorem dL_noon_92 : decode cL_noon 92 = .ok (.invokestatic 35, 3) := by decide +kernel
theorem dL_noon_95 : decode cL_noon 95 = .ok (.aload_n 0, 1) := by decide +kernel
theorem dL_noon_96 : decode cL_noon 96 = .ok (.iconst 4, 1) := by decide +kernel
theorem dL_noon_97 : decode cL_noon 97 = .ok (.iaload, 1) := by decide +kernel
theorem dL_noon_98 : decode cL_noon 98 = .ok (.if_icmp .le 49, 3) := by decide +kernel
theorem dL_noon_101 : decode cL_noon 101 = .ok (.aload_n 0, 1) := by decide +kernel
theorem dL_noon_102 : decode cL_noon 102 = .ok (.bipush 14, 2) := by decide +kernel
theorem dL_noon_104 : decode cL_noon 104 = .ok (.dup2, 1) := by decide +kernel
theorem dL_noon_105 : decode cL_noon 105 = .ok (.iaload, 1) := by decide +kernel
theorem dL_noon_106 : decode cL_noon 106 = .ok (.iconst 1, 1) := by decide +kernel
theorem dL_noon_107 : decode cL_noon 107 = .ok (.iadd, 1) := by decide +kernel
theorem dL_noon_108 : decode cL_noon 108 = .ok (.iastore, 1) := by decide +kernel
theorem dL_noon_109 : decode cL_noon 109 = .ok (.aload_n 0, 1) := by decide +kernel
theorem dL_noon_110 : decode cL_noon 110 = .ok (.bipush 15, 2) := by decide +kernel
theorem dL_noon_112 : decode cL_noon 112 = .ok (.dup2, 1) := by decide +kernel
theorem dL_noon_113 : decode cL_noon 113 = .ok (.iaload, 1) := by decide +kernel
theorem dL_noon_114 : decode cL_noon 114 = .ok (.aload_n 0, 1) := by decide +kernel
theorem dL_noon_115 : decode cL_noon 115 = .ok (.iconst 5, 1) := by decide +kernel
theorem dL_noon_116 : decode cL_noon 116 = .ok (.iaload, 1) := by decide +kernel
theorem dL_noon_117 : decode cL_noon 117 = .ok (.iadd, 1) := by decide +kernel
theorem dL_noon_118 : decode cL_noon 118 = .ok (.iastore, 1) := by decide +kernel
theorem dL_noon_119 : decode cL_noon 119 = .ok (.aload_n 2, 1) := by decide +kernel
theorem dL_noon_120 : decode cL_noon 120 = .ok (.bipush 20, 2) := by decide +kernel
theorem dL_noon_122 : decode cL_noon 122 = .ok (.iload 4, 2) := by decide +kernel
theorem dL_noon_124 : decode cL_noon 124 = .ok (.iadd, 1) := by decide +kernel
theorem dL_noon_125 : decode cL_noon 125 = .ok (.dup2, 1) := by decide +kernel
theorem dL_noon_126 : decode cL_noon 126 = .ok (.iaload, 1) := by decide +kernel
theorem dL_noon_127 : decode cL_noon 127 = .ok (.aload_n 0, 1) := by decide +kernel
theorem dL_noon_128 : decode cL_noon 128 = .ok (.iconst 5, 1) := by decide +kernel
theorem dL_noon_129 : decode cL_noon 129 = .ok (.iaload, 1) := by decide +kernel
theorem dL_noon_130 : decode cL_noon 130 = .ok (.iadd, 1) := by decide +kernel
theorem dL_noon_131 : decode cL_noon 131 = .ok (.iastore, 1) := by decide +kernel
theorem dL_noon_132 : decode cL_noon 132 = .ok (.aload_n 0, 1) := by decide +kernel
theorem dL_noon_133 : decode cL_noon 133 = .ok (.iconst 5, 1) := by decide +kernel
theorem dL_noon_134 : decode cL_noon 134 = .ok (.iaload, 1) := by decide +kernel
theorem dL_noon_135 : decode cL_noon 135 = .ok (.iconst 1, 1) := by decide +kernel
theorem dL_noon_136 : decode cL_noon 136 = .ok (.if_icmp .ne 11, 3) := by decide +kernel
theorem dL_noon_139 : decode cL_noon 139 = .ok (.aload_n 0, 1) := by decide +kernel
theorem dL_noon_140 : decode cL_noon 140 = .ok (.aload_n 1, 1) := by decide +kernel
theorem dL_noon_141 : decode cL_noon 141 = .ok (.aload_n 2, 1) := by decide +kernel
theorem dL_noon_142 : decode cL_noon 142 = .ok (.iload 4, 2) := by decide +kernel
theorem dL_noon_144 : decode cL_noon 144 = .ok (.invokestatic 38, 3) := by decide +kernel
theorem dL_noon_147 : decode cL_noon 147 = .ok (.iinc 4 1, 3) := by decide +kernel
theorem dL_noon_150 : decode cL_noon 150 = .ok (.goto (-86), 3) := by decide +kernel
theorem dL_noon_153 : decode cL_noon 153 = .ok (.return_, 1) := by decide +kernel
theorem dL_areClocks_0 : decode cL_areClocks 0 = .ok (.iconst 1, 1) := by decide +kernel
theorem dL_areClocks_1 : decode cL_areClocks 1 = .ok (.istore 4, 2) := by decide +kernel
theorem dL_areClocks_3 : decode cL_areClocks 3 = .ok (.iconst 0, 1) := by decide +kernel
theorem dL_areClocks_4 : decode cL_areClocks 4 = .ok (.istore 5, 2) := by decide +kernel
theorem dL_areClocks_6 : decode cL_areClocks 6 = .ok (.iload 5, 2) := by decide +kernel
theorem dL_areClocks_8 : decode cL_areClocks 8 = .ok (.aload_n 1, 1) := by decide +kernel
theorem dL_areClocks_9 : decode cL_areClocks 9 = .ok (.bipush 18, 2) := by decide +kernel
theorem dL_areClocks_11 : decode cL_areClocks 11 = .ok (.iaload, 1) := by decide +kernel
theorem dL_areClocks_12 : decode cL_areClocks 12 = .ok (.if_icmp .ge 387, 3) := by decide +kernel
theorem dL_areClocks_15 : decode cL_areClocks 15 = .ok (.iload 4, 2) := by decide +kernel
theorem dL_areClocks_17 : decode cL_areClocks 17 = .ok (.ifCond .eq 382, 3) := by decide +kernel
theorem dL_areClocks_20 : decode cL_areClocks 20 = .ok (.aload_n 2, 1) := by decide +kernel
theorem dL_areClocks_21 : decode cL_areClocks 21 = .ok (.bipush 20, 2) := by decide +kernel
theorem dL_areClocks_23 : decode cL_areClocks 23 = .ok (.iload 5, 2) := by decide +kernel
theorem dL_areClocks_25 : decode cL_areClocks 25 = .ok (.iadd, 1) := by decide +kernel
theorem dL_areClocks_26 : decode cL_areClocks 26 = .ok (.iaload, 1) := by decide +kernel
theorem dL_areClocks_27 : decode cL_areClocks 27 = .ok (.istore 6, 2) := by decide +kernel
theorem dL_areClocks_29 : decode cL_areClocks 29 = .ok (.aload_n 0, 1) := by decide +kernel
theorem dL_areClocks_30 : decode cL_areClocks 30 = .ok (.iload 5, 2) := by decide +kernel
theorem dL_areClocks_32 : decode cL_areClocks 32 = .ok (.iconst 0, 1) := by decide +kernel
theorem dL_areClocks_33 : decode cL_areClocks 33 = .ok (.invokevirtual 42, 3) := by decide +kernel
theorem dL_areClocks_36 : decode cL_areClocks 36 = .ok (.iload 6, 2) := by decide +kernel
theorem dL_areClocks_38 : decode cL_areClocks 38 = .ok (.if_icmp .ne 143, 3) := by decide +kernel
theorem dL_areClocks_41 : decode cL_areClocks 41 = .ok (.aload_n 0, 1) := by decide +kernel
theorem dL_areClocks_42 : decode cL_areClocks 42 = .ok (.iload 5, 2) := by decide +kernel
theorem dL_areClocks_44 : decode cL_areClocks 44 = .ok (.iconst 1, 1) := by decide +kernel
theorem dL_areClocks_45 : decode cL_areClocks 45 = .ok (.invokevirtual 42, 3) := by decide +kernel
theorem dL_areClocks_48 : decode cL_areClocks 48 = .ok (.aload_n 2, 1) := by decide +kernel
theorem dL_areClocks_49 : decode cL_areClocks 49 = .ok (.iload 5, 2) := by decide +kernel
theorem dL_areClocks_51 : decode cL_areClocks 51 = .ok (.iaload, 1) := by decide +kernel
theorem dL_areClocks_52 : decode cL_areClocks 52 = .ok (.if_icmp .ne 129, 3) := by decide +kernel
theorem dL_areClocks_55 : decode cL_areClocks 55 = .ok (.aload_n 0, 1) := by decide +kernel
theorem dL_areClocks_56 : decode cL_areClocks 56 = .ok (.iload 5, 2) := by decide +kernel
theorem dL_areClocks_58 : decode cL_areClocks 58 = .ok (.iconst 2, 1) := by decide +kernel
theorem dL_areClocks_59 : decode cL_areClocks 59 = .ok (.invokevirtual 42, 3) := by decide +kernel
theorem dL_areClocks_62 : decode cL_areClocks 62 = .ok (.iload 6, 2) := by decide +kernel
theorem dL_areClocks_64 : decode cL_areClocks 64 = .ok (.ifCond .ne 8, 3) := by decide +kernel
theorem dL_areClocks_67 : decode cL_areClocks 67 = .ok (.ldc 48, 2) := by decide +kernel
theorem dL_areClocks_69 : decode cL_areClocks 69 = .ok (.goto 9, 3) := by decide +kernel
theorem dL_areClocks_72 : decode cL_areClocks 72 = .ok (.aload_n 2, 1) := by decide +kernel
theorem dL_areClocks_73 : decode cL_areClocks 73 = .ok (.iconst 5, 1) := by decide +kernel
theorem dL_areClocks_74 : decode cL_areClocks 74 = .ok (.iload 5, 2) := by decide +kernel
theorem dL_areClocks_76 : decode cL_areClocks 76 = .ok (.iadd, 1) := by decide +kernel
theorem dL_areClocks_77 : decode cL_areClocks 77 = .ok (.iaload, 1) := by decide +kernel
theorem dL_areClocks_78 : decode cL_areClocks 78 = .ok (.if_icmp .ne 103, 3) := by decide +kernel
theorem dL_areClocks_81 : decode cL_areClocks 81 = .ok (.aload_n 0, 1) := by decide +kernel
theorem dL_areClocks_82 : decode cL_areClocks 82 = .ok (.iload 5, 2) := by decide +kernel
theorem dL_areClocks_84 : decode cL_areClocks 84 = .ok (.iconst 3, 1) := by decide +kernel
theorem dL_areClocks_85 : decode cL_areClocks 85 = .ok (.invokevirtual 42, 3) := by decide +kernel
theorem dL_areClocks_88 : decode cL_areClocks 88 = .ok (.aload_n 2, 1) := by decide +kernel
theorem dL_areClocks_89 : decode cL_areClocks 89 = .ok (.bipush 10, 2) := by decide +kernel
theorem dL_areClocks_91 : decode cL_areClocks 91 = .ok (.iload 5, 2) := by decide +kernel
theorem dL_areClocks_93 : decode cL_areClocks 93 = .ok (.iadd, 1) := by decide +kernel
theorem dL_areClocks_94 : decode cL_areClocks 94 = .ok (.iaload, 1) := by decide +kernel
theorem dL_areClocks_95 : decode cL_areClocks 95 = .ok (.if_icmp .ne 86, 3) := by decide +kernel
theorem dL_areClocks_98 : decode cL_areClocks 98 = .ok (.aload_n 0, 1) := by decide +kernel
theorem dL_areClocks_99 : decode cL_areClocks 99 = .ok (.iload 5, 2) := by decide +kernel
theorem dL_areClocks_101 : decode cL_areClocks 101 = .ok (.iconst 4, 1) := by decide +kernel
theorem dL_areClocks_102 : decode cL_areClocks 102 = .ok (.invokevirtual 42, 3) := by decide +kernel
theorem dL_areClocks_105 : decode cL_areClocks 105 = .ok (.aload_n 2, 1) := by decide +kernel
theorem dL_areClocks_106 : decode cL_areClocks 106 = .ok (.bipush 15, 2) := by decide +kernel
theorem dL_areClocks_108 : decode cL_areClocks 108 = .ok (.iload 5, 2) := by decide +kernel
theorem dL_areClocks_110 : decode cL_areClocks 110 = .ok (.iadd, 1) := by decide +kernel
theorem dL_areClocks_111 : decode cL_areClocks 111 = .ok (.iaload, 1) := by decide +kernel
theorem dL_areClocks_112 : decode cL_areClocks 112 = .ok (.if_icmp .ne 69, 3) := by decide +kernel
theorem dL_areClocks_115 : decode cL_areClocks 115 = .ok (.aload_n 0, 1) := by decide +kernel
theorem dL_areClocks_116 : decode cL_areClocks 116 = .ok (.iload 5, 2) := by decide +kernel
theorem dL_areClocks_118 : decode cL_areClocks 118 = .ok (.iconst 5, 1) := by decide +kernel
theorem dL_areClocks_119 : decode cL_areClocks 119 = .ok (.invokevirtual 42, 3) := by decide +kernel
theorem dL_areClocks_122 : decode cL_areClocks 122 = .ok (.aload_n 2, 1) := by decide +kernel
theorem dL_areClocks_123 : decode cL_areClocks 123 = .ok (.bipush 30, 2) := by decide +kernel
theorem dL_areClocks_125 : decode cL_areClocks 125 = .ok (.iload 5, 2) := by decide +kernel
theorem dL_areClocks_127 : decode cL_areClocks 127 = .ok (.iadd, 1) := by decide +kernel
theorem dL_areClocks_128 : decode cL_areClocks 128 = .ok (.iaload, 1) := by decide +kernel
theorem dL_areClocks_129 : decode cL_areClocks 129 = .ok (.if_icmp .ne 52, 3) := by decide +kernel
theorem dL_areClocks_132 : decode cL_areClocks 132 = .ok (.aload_n 0, 1) := by decide +kernel
theorem dL_areClocks_133 : decode cL_areClocks 133 = .ok (.iload 5, 2) := by decide +kernel
theorem dL_areClocks_135 : decode cL_areClocks 135 = .ok (.bipush 6, 2) := by decide +kernel
theorem dL_areClocks_137 : decode cL_areClocks 137 = .ok (.invokevirtual 42, 3) := by decide +kernel
theorem dL_areClocks_140 : decode cL_areClocks 140 = .ok (.aload_n 2, 1) := by decide +kernel
theorem dL_areClocks_141 : decode cL_areClocks 141 = .ok (.iload 5, 2) := by decide +kernel
theorem dL_areClocks_143 : decode cL_areClocks 143 = .ok (.invokestatic 23, 3) := by decide +kernel
theorem dL_areClocks_146 : decode cL_areClocks 146 = .ok (.if_icmp .ne 35, 3) := by decide +kernel
theorem dL_areClocks_149 : decode cL_areClocks 149 = .ok (.aload_n 0, 1) := by decide +kernel
theorem dL_areClocks_150 : decode cL_areClocks 150 = .ok (.iload 5, 2) := by decide +kernel
theorem dL_areClocks_152 : decode cL_areClocks 152 = .ok (.bipush 7, 2) := by decide +kernel
theorem dL_areClocks_154 : decode cL_areClocks 154 = .ok (.invokevirtual 42, 3) := by decide +kernel
theorem dL_areClocks_157 : decode cL_areClocks 157 = .ok (.iload 6, 2) := by decide +kernel
theorem dL_areClocks_159 : decode cL_areClocks 159 = .ok (.iconst 2, 1) := by decide +kernel
theorem dL_areClocks_160 : decode cL_areClocks 160 = .ok (.if_icmp .ne 12, 3) := by decide +kernel
theorem dL_areClocks_163 : decode cL_areClocks 163 = .ok (.aload_n 3, 1) := by decide +kernel
theorem dL_areClocks_164 : decode cL_areClocks 164 = .ok (.iconst 5, 1) := by decide +kernel
theorem dL_areClocks_165 : decode cL_areClocks 165 = .ok (.iload 5, 2) := by decide +kernel
theorem dL_areClocks_167 : decode cL_areClocks 167 = .ok (.iadd, 1) := by decide +kernel
theorem dL_areClocks_168 : decode cL_areClocks 168 = .ok (.iaload, 1) := by decide +kernel
theorem dL_areClocks_169 : decode cL_areClocks 169 = .ok (.goto 5, 3) := by decide +kernel
theorem dL_areClocks_172 : decode cL_areClocks 172 = .ok (.ldc 48, 2) := by decide +kernel
theorem dL_areClocks_174 : decode cL_areClocks 174 = .ok (.if_icmp .ne 7, 3) := by decide +kernel
theorem dL_areClocks_177 : decode cL_areClocks 177 = .ok (.iconst 1, 1) := by decide +kernel
theorem dL_areClocks_178 : decode cL_areClocks 178 = .ok (.goto 4, 3) := by decide +kernel
theorem dL_areClocks_181 : decode cL_areClocks 181 = .ok (.iconst 0, 1) := by decide +kernel
theorem dL_areClocks_182 : decode cL_areClocks 182 = .ok (.istore 4, 2) := by decide +kernel
theorem dL_areClocks_184 : decode cL_areClocks 184 = .ok (.iload 4, 2) := by decide +kernel
theorem dL_areClocks_186 : decode cL_areClocks 186 = .ok (.ifCond .eq 109, 3) := by decide +kernel
theorem dL_areClocks_189 : decode cL_areClocks 189 = .ok (.aload_n 0, 1) := by decide +kernel
theorem dL_areClocks_190 : decode cL_areClocks 190 = .ok (.iload 5, 2) := by decide +kernel
theorem dL_areClocks_192 : decode cL_areClocks 192 = .ok (.bipush 8, 2) := by decide +kernel
theorem dL_areClocks_194 : decode cL_areClocks 194 = .ok (.invokevirtual 42, 3) := by decide +kernel
theorem dL_areClocks_197 : decode cL_areClocks 197 = .ok (.aload_n 2, 1) := by decide +kernel
theorem dL_areClocks_198 : decode cL_areClocks 198 = .ok (.bipush 25, 2) := by decide +kernel
theorem dL_areClocks_200 : decode cL_areClocks 200 = .ok (.iload 5, 2) := by decide +kernel
theorem dL_areClocks_202 : decode cL_areClocks 202 = .ok (.iadd, 1) := by decide +kernel
theorem dL_areClocks_203 : decode cL_areClocks 203 = .ok (.iaload, 1) := by decide +kernel
theorem dL_areClocks_204 : decode cL_areClocks 204 = .ok (.iload 5, 2) := by decide +kernel
theorem dL_areClocks_206 : decode cL_areClocks 206 = .ok (.if_icmp .ne 8, 3) := by decide +kernel
theorem dL_areClocks_209 : decode cL_areClocks 209 = .ok (.ldc 48, 2) := by decide +kernel
theorem dL_areClocks_211 : decode cL_areClocks 211 = .ok (.goto 10, 3) := by decide +kernel
theorem dL_areClocks_214 : decode cL_areClocks 214 = .ok (.aload_n 2, 1) := by decide +kernel
theorem dL_areClocks_215 : decode cL_areClocks 215 = .ok (.bipush 25, 2) := by decide +kernel
theorem dL_areClocks_217 : decode cL_areClocks 217 = .ok (.iload 5, 2) := by decide +kernel
theorem dL_areClocks_219 : decode cL_areClocks 219 = .ok (.iadd, 1) := by decide +kernel
theorem dL_areClocks_220 : decode cL_areClocks 220 = .ok (.iaload, 1) := by decide +kernel
theorem dL_areClocks_221 : decode cL_areClocks 221 = .ok (.if_icmp .ne 74, 3) := by decide +kernel
theorem dL_areClocks_224 : decode cL_areClocks 224 = .ok (.aload_n 0, 1) := by decide +kernel
theorem dL_areClocks_225 : decode cL_areClocks 225 = .ok (.iload 5, 2) := by decide +kernel
theorem dL_areClocks_227 : decode cL_areClocks 227 = .ok (.bipush 9, 2) := by decide +kernel
theorem dL_areClocks_229 : decode cL_areClocks 229 = .ok (.invokevirtual 42, 3) := by decide +kernel
theorem dL_areClocks_232 : decode cL_areClocks 232 = .ok (.aload_n 3, 1) := by decide +kernel
theorem dL_areClocks_233 : decode cL_areClocks 233 = .ok (.bipush 15, 2) := by decide +kernel
theorem dL_areClocks_235 : decode cL_areClocks 235 = .ok (.iload 5, 2) := by decide +kernel
theorem dL_areClocks_237 : decode cL_areClocks 237 = .ok (.iadd, 1) := by decide +kernel
theorem dL_areClocks_238 : decode cL_areClocks 238 = .ok (.iaload, 1) := by decide +kernel
theorem dL_areClocks_239 : decode cL_areClocks 239 = .ok (.if_icmp .ne 56, 3) := by decide +kernel
theorem dL_areClocks_242 : decode cL_areClocks 242 = .ok (.aload_n 0, 1) := by decide +kernel
theorem dL_areClocks_243 : decode cL_areClocks 243 = .ok (.iload 5, 2) := by decide +kernel
theorem dL_areClocks_245 : decode cL_areClocks 245 = .ok (.bipush 10, 2) := by decide +kernel
theorem dL_areClocks_247 : decode cL_areClocks 247 = .ok (.invokevirtual 42, 3) := by decide +kernel
theorem dL_areClocks_250 : decode cL_areClocks 250 = .ok (.aload_n 3, 1) := by decide +kernel
theorem dL_areClocks_251 : decode cL_areClocks 251 = .ok (.bipush 20, 2) := by decide +kernel
theorem dL_areClocks_253 : decode cL_areClocks 253 = .ok (.iload 5, 2) := by decide +kernel
theorem dL_areClocks_255 : decode cL_areClocks 255 = .ok (.iadd, 1) := by decide +kernel
theorem dL_areClocks_256 : decode cL_areClocks 256 = .ok (.iaload, 1) := by decide +kernel
theorem dL_areClocks_257 : decode cL_areClocks 257 = .ok (.if_icmp .ne 38, 3) := by decide +kernel
theorem dL_areClocks_260 : decode cL_areClocks 260 = .ok (.aload_n 0, 1) := by decide +kernel
theorem dL_areClocks_261 : decode cL_areClocks 261 = .ok (.iload 5, 2) := by decide +kernel
theorem dL_areClocks_263 : decode cL_areClocks 263 = .ok (.bipush 11, 2) := by decide +kernel
theorem dL_areClocks_265 : decode cL_areClocks 265 = .ok (.invokevirtual 42, 3) := by decide +kernel
theorem dL_areClocks_268 : decode cL_areClocks 268 = .ok (.aload_n 3, 1) := by decide +kernel
theorem dL_areClocks_269 : decode cL_areClocks 269 = .ok (.bipush 25, 2) := by decide +kernel
theorem dL_areClocks_271 : decode cL_areClocks 271 = .ok (.iload 5, 2) := by decide +kernel
theorem dL_areClocks_273 : decode cL_areClocks 273 = .ok (.iadd, 1) := by decide +kernel
theorem dL_areClocks_274 : decode cL_areClocks 274 = .ok (.iaload, 1) := by decide +kernel
theorem dL_areClocks_275 : decode cL_areClocks 275 = .ok (.if_icmp .ne 20, 3) := by decide +kernel
theorem dL_areClocks_278 : decode cL_areClocks 278 = .ok (.aload_n 0, 1) := by decide +kernel
theorem dL_areClocks_279 : decode cL_areClocks 279 = .ok (.iload 5, 2) := by decide +kernel
theorem dL_areClocks_281 : decode cL_areClocks 281 = .ok (.bipush 12, 2) := by decide +kernel
theorem dL_areClocks_283 : decode cL_areClocks 283 = .ok (.invokevirtual 42, 3) := by decide +kernel
theorem dL_areClocks_286 : decode cL_areClocks 286 = .ok (.ldc 49, 2) := by decide +kernel
theorem dL_areClocks_288 : decode cL_areClocks 288 = .ok (.if_icmp .ne 7, 3) := by decide +kernel
theorem dL_areClocks_291 : decode cL_areClocks 291 = .ok (.iconst 1, 1) := by decide +kernel
theorem dL_areClocks_292 : decode cL_areClocks 292 = .ok (.goto 4, 3) := by decide +kernel
theorem dL_areClocks_295 : decode cL_areClocks 295 = .ok (.iconst 0, 1) := by decide +kernel
theorem dL_areClocks_296 : decode cL_areClocks 296 = .ok (.istore 4, 2) := by decide +kernel
theorem dL_areClocks_298 : decode cL_areClocks 298 = .ok (.iload 4, 2) := by decide +kernel
theorem dL_areClocks_300 : decode cL_areClocks 300 = .ok (.ifCond .eq 90, 3) := by decide +kernel
theorem dL_areClocks_303 : decode cL_areClocks 303 = .ok (.aload_n 0, 1) := by decide +kernel
theorem dL_areClocks_304 : decode cL_areClocks 304 = .ok (.iload 5, 2) := by decide +kernel
theorem dL_areClocks_306 : decode cL_areClocks 306 = .ok (.iconst 0, 1) := by decide +kernel
theorem dL_areClocks_307 : decode cL_areClocks 307 = .ok (.invokevirtual 50, 3) := by decide +kernel
theorem dL_areClocks_310 : decode cL_areClocks 310 = .ok (.aload_n 1, 1) := by decide +kernel
theorem dL_areClocks_311 : decode cL_areClocks 311 = .ok (.aload_n 2, 1) := by decide +kernel
theorem dL_areClocks_312 : decode cL_areClocks 312 = .ok (.aload_n 3, 1) := by decide +kernel
theorem dL_areClocks_313 : decode cL_areClocks 313 = .ok (.iload 5, 2) := by decide +kernel
theorem dL_areClocks_315 : decode cL_areClocks 315 = .ok (.invokestatic 15, 3) := by decide +kernel
theorem dL_areClocks_318 : decode cL_areClocks 318 = .ok (.aload_n 1, 1) := by decide +kernel
theorem dL_areClocks_319 : decode cL_areClocks 319 = .ok (.bipush 6, 2) := by decide +kernel
theorem dL_areClocks_321 : decode cL_areClocks 321 = .ok (.iaload, 1) := by decide +kernel
theorem dL_areClocks_322 : decode cL_areClocks 322 = .ok (.aload_n 1, 1) := by decide +kernel
theorem dL_areClocks_323 : decode cL_areClocks 323 = .ok (.iconst 3, 1) := by decide +kernel
theorem dL_areClocks_324 : decode cL_areClocks 324 = .ok (.iaload, 1) := by decide +kernel
theorem dL_areClocks_325 : decode cL_areClocks 325 = .ok (.idiv, 1) := by decide +kernel
theorem dL_areClocks_326 : decode cL_areClocks 326 = .ok (.iadd, 1) := by decide +kernel
theorem dL_areClocks_327 : decode cL_areClocks 327 = .ok (.sipush 10000, 3) := by decide +kernel
theorem dL_areClocks_330 : decode cL_areClocks 330 = .ok (.iadd, 1) := by decide +kernel
theorem dL_areClocks_331 : decode cL_areClocks 331 = .ok (.if_icmp .ne 59, 3) := by decide +kernel
theorem dL_areClocks_334 : decode cL_areClocks 334 = .ok (.aload_n 0, 1) := by decide +kernel
theorem dL_areClocks_335 : decode cL_areClocks 335 = .ok (.iload 5, 2) := by decide +kernel
theorem dL_areClocks_337 : decode cL_areClocks 337 = .ok (.iconst 1, 1) := by decide +kernel
theorem dL_areClocks_338 : decode cL_areClocks 338 = .ok (.invokevirtual 50, 3) := by decide +kernel
theorem dL_areClocks_341 : decode cL_areClocks 341 = .ok (.aload_n 1, 1) := by decide +kernel
theorem dL_areClocks_342 : decode cL_areClocks 342 = .ok (.aload_n 2, 1) := by decide +kernel
theorem dL_areClocks_343 : decode cL_areClocks 343 = .ok (.aload_n 3, 1) := by decide +kernel
theorem dL_areClocks_344 : decode cL_areClocks 344 = .ok (.iload 5, 2) := by decide +kernel
theorem dL_areClocks_346 : decode cL_areClocks 346 = .ok (.invokestatic 15, 3) := by decide +kernel
theorem dL_areClocks_349 : decode cL_areClocks 349 = .ok (.sipush 10000, 3) := by decide +kernel
theorem dL_areClocks_352 : decode cL_areClocks 352 = .ok (.iadd, 1) := by decide +kernel
theorem dL_areClocks_353 : decode cL_areClocks 353 = .ok (.if_icmp .ne 37, 3) := by decide +kernel
theorem dL_areClocks_356 : decode cL_areClocks 356 = .ok (.aload_n 0, 1) := by decide +kernel
theorem dL_areClocks_357 : decode cL_areClocks 357 = .ok (.iload 5, 2) := by decide +kernel
theorem dL_areClocks_359 : decode cL_areClocks 359 = .ok (.iconst 2, 1) := by decide +kernel
theorem dL_areClocks_360 : decode cL_areClocks 360 = .ok (.invokevirtual 50, 3) := by decide +kernel
theorem dL_areClocks_363 : decode cL_areClocks 363 = .ok (.aload_n 1, 1) := by decide +kernel
theorem dL_areClocks_364 : decode cL_areClocks 364 = .ok (.bipush 6, 2) := by decide +kernel
theorem dL_areClocks_366 : decode cL_areClocks 366 = .ok (.iaload, 1) := by decide +kernel
theorem dL_areClocks_367 : decode cL_areClocks 367 = .ok (.aload_n 1, 1) := by decide +kernel
theorem dL_areClocks_368 : decode cL_areClocks 368 = .ok (.iconst 3, 1) := by decide +kernel
theorem dL_areClocks_369 : decode cL_areClocks 369 = .ok (.iaload, 1) := by decide +kernel
theorem dL_areClocks_370 : decode cL_areClocks 370 = .ok (.idiv, 1) := by decide +kernel
theorem dL_areClocks_371 : decode cL_areClocks 371 = .ok (.if_icmp .ne 19, 3) := by decide +kernel
theorem dL_areClocks_374 : decode cL_areClocks 374 = .ok (.aload_n 0, 1) := by decide +kernel
theorem dL_areClocks_375 : decode cL_areClocks 375 = .ok (.iload 5, 2) := by decide +kernel
theorem dL_areClocks_377 : decode cL_areClocks 377 = .ok (.iconst 3, 1) := by decide +kernel
theorem dL_areClocks_378 : decode cL_areClocks 378 = .ok (.invokevirtual 50, 3) := by decide +kernel
theorem dL_areClocks_381 : decode cL_areClocks 381 = .ok (.ldc 49, 2) := by decide +kernel
theorem dL_areClocks_383 : decode cL_areClocks 383 = .ok (.if_icmp .ne 7, 3) := by decide +kernel
theorem dL_areClocks_386 : decode cL_areClocks 386 = .ok (.iconst 1, 1) := by decide +kernel
theorem dL_areClocks_387 : decode cL_areClocks 387 = .ok (.goto 4, 3) := by decide +kernel
theorem dL_areClocks_390 : decode cL_areClocks 390 = .ok (.iconst 0, 1) := by decide +kernel
theorem dL_areClocks_391 : decode cL_areClocks 391 = .ok (.istore 4, 2) := by decide +kernel
theorem dL_areClocks_393 : decode cL_areClocks 393 = .ok (.iinc 5 1, 3) := by decide +kernel
theorem dL_areClocks_396 : decode cL_areClocks 396 = .ok (.goto (-390), 3) := by decide +kernel
theorem dL_areClocks_399 : decode cL_areClocks 399 = .ok (.iload 4, 2) := by decide +kernel
theorem dL_areClocks_401 : decode cL_areClocks 401 = .ok (.ifCond .eq 35, 3) := by decide +kernel
theorem dL_areClocks_404 : decode cL_areClocks 404 = .ok (.aload_n 0, 1) := by decide +kernel
theorem dL_areClocks_405 : decode cL_areClocks 405 = .ok (.aload_n 1, 1) := by decide +kernel
theorem dL_areClocks_406 : decode cL_areClocks 406 = .ok (.bipush 18, 2) := by decide +kernel
theorem dL_areClocks_408 : decode cL_areClocks 408 = .ok (.iaload, 1) := by decide +kernel
theorem dL_areClocks_409 : decode cL_areClocks 409 = .ok (.iconst 0, 1) := by decide +kernel
theorem dL_areClocks_410 : decode cL_areClocks 410 = .ok (.invokevirtual 42, 3) := by decide +kernel
theorem dL_areClocks_413 : decode cL_areClocks 413 = .ok (.ldc 49, 2) := by decide +kernel
theorem dL_areClocks_415 : decode cL_areClocks 415 = .ok (.if_icmp .ne 21, 3) := by decide +kernel
theorem dL_areClocks_418 : decode cL_areClocks 418 = .ok (.aload_n 0, 1) := by decide +kernel
theorem dL_areClocks_419 : decode cL_areClocks 419 = .ok (.aload_n 1, 1) := by decide +kernel
theorem dL_areClocks_420 : decode cL_areClocks 420 = .ok (.bipush 18, 2) := by decide +kernel
theorem dL_areClocks_422 : decode cL_areClocks 422 = .ok (.iaload, 1) := by decide +kernel
theorem dL_areClocks_423 : decode cL_areClocks 423 = .ok (.iconst 0, 1) := by decide +kernel
theorem dL_areClocks_424 : decode cL_areClocks 424 = .ok (.invokevirtual 50, 3) := by decide +kernel
theorem dL_areClocks_427 : decode cL_areClocks 427 = .ok (.ldc 49, 2) := by decide +kernel
theorem dL_areClocks_429 : decode cL_areClocks 429 = .ok (.if_icmp .ne 7, 3) := by decide +kernel
theorem dL_areClocks_432 : decode cL_areClocks 432 = .ok (.iconst 1, 1) := by decide +kernel
theorem dL_areClocks_433 : decode cL_areClocks 433 = .ok (.goto 4, 3) := by decide +kernel
theorem dL_areClocks_436 : decode cL_areClocks 436 = .ok (.iconst 0, 1) := by decide +kernel
theorem dL_areClocks_437 : decode cL_areClocks 437 = .ok (.ireturn, 1) := by decide +kernel
theorem dL_isWater_0 : decode cL_isWater 0 = .ok (.iconst 0, 1) := by decide +kernel
theorem dL_isWater_1 : decode cL_isWater 1 = .ok (.istore_n 3, 1) := by decide +kernel
theorem dL_isWater_2 : decode cL_isWater 2 = .ok (.iconst 0, 1) := by decide +kernel
theorem dL_isWater_3 : decode cL_isWater 3 = .ok (.istore 4, 2) := by decide +kernel
theorem dL_isWater_5 : decode cL_isWater 5 = .ok (.iconst 0, 1) := by decide +kernel
theorem dL_isWater_6 : decode cL_isWater 6 = .ok (.istore 5, 2) := by decide +kernel
theorem dL_isWater_8 : decode cL_isWater 8 = .ok (.iload 5, 2) := by decide +kernel
theorem dL_isWater_10 : decode cL_isWater 10 = .ok (.aload_n 1, 1) := by decide +kernel
theorem dL_isWater_11 : decode cL_isWater 11 = .ok (.bipush 18, 2) := by decide +kernel
theorem dL_isWater_13 : decode cL_isWater 13 = .ok (.iaload, 1) := by decide +kernel
theorem dL_isWater_14 : decode cL_isWater 14 = .ok (.if_icmp .ge 27, 3) := by decide +kernel
theorem dL_isWater_17 : decode cL_isWater 17 = .ok (.iload_n 3, 1) := by decide +kernel
theorem dL_isWater_18 : decode cL_isWater 18 = .ok (.aload_n 2, 1) := by decide +kernel
theorem dL_isWater_19 : decode cL_isWater 19 = .ok (.iload 5, 2) := by decide +kernel
theorem dL_isWater_21 : decode cL_isWater 21 = .ok (.iaload, 1) := by decide +kernel
theorem dL_isWater_22 : decode cL_isWater 22 = .ok (.iadd, 1) := by decide +kernel
theorem dL_isWater_23 : decode cL_isWater 23 = .ok (.istore_n 3, 1) := by decide +kernel
theorem dL_isWater_24 : decode cL_isWater 24 = .ok (.iload 4, 2) := by decide +kernel
theorem dL_isWater_26 : decode cL_isWater 26 = .ok (.aload_n 2, 1) := by decide +kernel
theorem dL_isWater_27 : decode cL_isWater 27 = .ok (.iconst 5, 1) := by decide +kernel
theorem dL_isWater_28 : decode cL_isWater 28 = .ok (.iload 5, 2) := by decide +kernel
theorem dL_isWater_30 : decode cL_isWater 30 = .ok (.iadd, 1) := by decide +kernel
theorem dL_isWater_31 : decode cL_isWater 31 = .ok (.iaload, 1) := by decide +kernel
theorem dL_isWater_32 : decode cL_isWater 32 = .ok (.iadd, 1) := by decide +kernel
theorem dL_isWater_33 : decode cL_isWater 33 = .ok (.istore 4, 2) := by decide +kernel
theorem dL_isWater_35 : decode cL_isWater 35 = .ok (.iinc 5 1, 3) := by decide +kernel
theorem dL_isWater_38 : decode cL_isWater 38 = .ok (.goto (-30), 3) := by decide +kernel
theorem dL_isWater_41 : decode cL_isWater 41 = .ok (.aload_n 1, 1) := by decide +kernel
theorem dL_isWater_42 : decode cL_isWater 42 = .ok (.bipush 7, 2) := by decide +kernel
theorem dL_isWater_44 : decode cL_isWater 44 = .ok (.iaload, 1) := by decide +kernel
theorem dL_isWater_45 : decode cL_isWater 45 = .ok (.iload_n 3, 1) := by decide +kernel
theorem dL_isWater_46 : decode cL_isWater 46 = .ok (.iadd, 1) := by decide +kernel
theorem dL_isWater_47 : decode cL_isWater 47 = .ok (.iload 4, 2) := by decide +kernel
theorem dL_isWater_49 : decode cL_isWater 49 = .ok (.iadd, 1) := by decide +kernel
theorem dL_isWater_50 : decode cL_isWater 50 = .ok (.aload_n 1, 1) := by decide +kernel
theorem dL_isWater_51 : decode cL_isWater 51 = .ok (.bipush 8, 2) := by decide +kernel
theorem dL_isWater_53 : decode cL_isWater 53 = .ok (.iaload, 1) := by decide +kernel
theorem dL_isWater_54 : decode cL_isWater 54 = .ok (.iadd, 1) := by decide +kernel
theorem dL_isWater_55 : decode cL_isWater 55 = .ok (.aload_n 1, 1) := by decide +kernel
theorem dL_isWater_56 : decode cL_isWater 56 = .ok (.bipush 9, 2) := by decide +kernel
theorem dL_isWater_58 : decode cL_isWater 58 = .ok (.iaload, 1) := by decide +kernel
theorem dL_isWater_59 : decode cL_isWater 59 = .ok (.iadd, 1) := by decide +kernel
theorem dL_isWater_60 : decode cL_isWater 60 = .ok (.sipush 20000, 3) := by decide +kernel
theorem dL_isWater_63 : decode cL_isWater 63 = .ok (.if_icmp .ne 73, 3) := by decide +kernel
theorem dL_isWater_66 : decode cL_isWater 66 = .ok (.aload_n 0, 1) := by decide +kernel
theorem dL_isWater_67 : decode cL_isWater 67 = .ok (.iconst 5, 1) := by decide +kernel
theorem dL_isWater_68 : decode cL_isWater 68 = .ok (.invokevirtual 53, 3) := by decide +kernel
theorem dL_isWater_71 : decode cL_isWater 71 = .ok (.sipush 20000, 3) := by decide +kernel
theorem dL_isWater_74 : decode cL_isWater 74 = .ok (.if_icmp .ne 62, 3) := by decide +kernel
theorem dL_isWater_77 : decode cL_isWater 77 = .ok (.aload_n 0, 1) := by decide +kernel
theorem dL_isWater_78 : decode cL_isWater 78 = .ok (.iconst 0, 1) := by decide +kernel
theorem dL_isWater_79 : decode cL_isWater 79 = .ok (.invokevirtual 53, 3) := by decide +kernel
theorem dL_isWater_82 : decode cL_isWater 82 = .ok (.aload_n 1, 1) := by decide +kernel
theorem dL_isWater_83 : decode cL_isWater 83 = .ok (.bipush 7, 2) := by decide +kernel
theorem dL_isWater_85 : decode cL_isWater 85 = .ok (.iaload, 1) := by decide +kernel
theorem dL_isWater_86 : decode cL_isWater 86 = .ok (.if_icmp .ne 50, 3) := by decide +kernel
theorem dL_isWater_89 : decode cL_isWater 89 = .ok (.aload_n 0, 1) := by decide +kernel
theorem dL_isWater_90 : decode cL_isWater 90 = .ok (.iconst 1, 1) := by decide +kernel
theorem dL_isWater_91 : decode cL_isWater 91 = .ok (.invokevirtual 53, 3) := by decide +kernel
theorem dL_isWater_94 : decode cL_isWater 94 = .ok (.iload_n 3, 1) := by decide +kernel
theorem dL_isWater_95 : decode cL_isWater 95 = .ok (.if_icmp .ne 41, 3) := by decide +kernel
theorem dL_isWater_98 : decode cL_isWater 98 = .ok (.aload_n 0, 1) := by decide +kernel
theorem dL_isWater_99 : decode cL_isWater 99 = .ok (.iconst 2, 1) := by decide +kernel
theorem dL_isWater_100 : decode cL_isWater 100 = .ok (.invokevirtual 53, 3) := by decide +kernel
theorem dL_isWater_103 : decode cL_isWater 103 = .ok (.iload 4, 2) := by decide +kernel
theorem dL_isWater_105 : decode cL_isWater 105 = .ok (.if_icmp .ne 31, 3) := by decide +kernel
theorem dL_isWater_108 : decode cL_isWater 108 = .ok (.aload_n 0, 1) := by decide +kernel
theorem dL_isWater_109 : decode cL_isWater 109 = .ok (.iconst 3, 1) := by decide +kernel
theorem dL_isWater_110 : decode cL_isWater 110 = .ok (.invokevirtual 53, 3) := by decide +kernel
theorem dL_isWater_113 : decode cL_isWater 113 = .ok (.aload_n 1, 1) := by decide +kernel
theorem dL_isWater_114 : decode cL_isWater 114 = .ok (.bipush 8, 2) := by decide +kernel
theorem dL_isWater_116 : decode cL_isWater 116 = .ok (.iaload, 1) := by decide +kernel
theorem dL_isWater_117 : decode cL_isWater 117 = .ok (.if_icmp .ne 19, 3) := by decide +kernel
theorem dL_isWater_120 : decode cL_isWater 120 = .ok (.aload_n 0, 1) := by decide +kernel
theorem dL_isWater_121 : decode cL_isWater 121 = .ok (.iconst 4, 1) := by decide +kernel
theorem dL_isWater_122 : decode cL_isWater 122 = .ok (.invokevirtual 53, 3) := by decide +kernel
theorem dL_isWater_125 : decode cL_isWater 125 = .ok (.aload_n 1, 1) := by decide +kernel
theorem dL_isWater_126 : decode cL_isWater 126 = .ok (.bipush 9, 2) := by decide +kernel
theorem dL_isWater_128 : decode cL_isWater 128 = .ok (.iaload, 1) := by decide +kernel
theorem dL_isWater_129 : decode cL_isWater 129 = .ok (.if_icmp .ne 7, 3) := by decide +kernel
theorem dL_isWater_132 : decode cL_isWater 132 = .ok (.iconst 1, 1) := by decide +kernel
theorem dL_isWater_133 : decode cL_isWater 133 = .ok (.goto 4, 3) := by decide +kernel
theorem dL_isWater_136 : decode cL_isWater 136 = .ok (.iconst 0, 1) := by decide +kernel
theorem dL_isWater_137 : decode cL_isWater 137 = .ok (.istore 5, 2) := by decide +kernel
theorem dL_isWater_139 : decode cL_isWater 139 = .ok (.iload 5, 2) := by decide +kernel
theorem dL_isWater_141 : decode cL_isWater 141 = .ok (.ifCond .eq 87, 3) := by decide +kernel
theorem dL_isWater_144 : decode cL_isWater 144 = .ok (.aload_n 0, 1) := by decide +kernel
theorem dL_isWater_145 : decode cL_isWater 145 = .ok (.bipush 6, 2) := by decide +kernel
theorem dL_isWater_147 : decode cL_isWater 147 = .ok (.invokevirtual 53, 3) := by decide +kernel
theorem dL_isWater_150 : decode cL_isWater 150 = .ok (.sipush 20000, 3) := by decide +kernel
theorem dL_isWater_153 : decode cL_isWater 153 = .ok (.aload_n 1, 1) := by decide +kernel
theorem dL_isWater_154 : decode cL_isWater 154 = .ok (.bipush 7, 2) := by decide +kernel
theorem dL_isWater_156 : decode cL_isWater 156 = .ok (.iaload, 1) := by decide +kernel
theorem dL_isWater_157 : decode cL_isWater 157 = .ok (.isub, 1) := by decide +kernel
theorem dL_isWater_158 : decode cL_isWater 158 = .ok (.if_icmp .ne 70, 3) := by decide +kernel
theorem dL_isWater_161 : decode cL_isWater 161 = .ok (.aload_n 0, 1) := by decide +kernel
theorem dL_isWater_162 : decode cL_isWater 162 = .ok (.bipush 6, 2) := by decide +kernel
theorem dL_isWater_164 : decode cL_isWater 164 = .ok (.invokevirtual 53, 3) := by decide +kernel
theorem dL_isWater_167 : decode cL_isWater 167 = .ok (.aload_n 1, 1) := by decide +kernel
theorem dL_isWater_168 : decode cL_isWater 168 = .ok (.bipush 10, 2) := by decide +kernel
theorem dL_isWater_170 : decode cL_isWater 170 = .ok (.iaload, 1) := by decide +kernel
theorem dL_isWater_171 : decode cL_isWater 171 = .ok (.if_icmp .ne 57, 3) := by decide +kernel
theorem dL_isWater_174 : decode cL_isWater 174 = .ok (.aload_n 0, 1) := by decide +kernel
theorem dL_isWater_175 : decode cL_isWater 175 = .ok (.bipush 7, 2) := by decide +kernel
theorem dL_isWater_177 : decode cL_isWater 177 = .ok (.invokevirtual 53, 3) := by decide +kernel
theorem dL_isWater_180 : decode cL_isWater 180 = .ok (.aload_n 1, 1) := by decide +kernel
theorem dL_isWater_181 : decode cL_isWater 181 = .ok (.bipush 11, 2) := by decide +kernel
theorem dL_isWater_183 : decode cL_isWater 183 = .ok (.iaload, 1) := by decide +kernel
theorem dL_isWater_184 : decode cL_isWater 184 = .ok (.if_icmp .ne 44, 3) := by decide +kernel
theorem dL_isWater_187 : decode cL_isWater 187 = .ok (.aload_n 0, 1) := by decide +kernel
theorem dL_isWater_188 : decode cL_isWater 188 = .ok (.bipush 8, 2) := by decide +kernel
theorem dL_isWater_190 : decode cL_isWater 190 = .ok (.invokevirtual 53, 3) := by decide +kernel
theorem dL_isWater_193 : decode cL_isWater 193 = .ok (.aload_n 1, 1) := by decide +kernel
theorem dL_isWater_194 : decode cL_isWater 194 = .ok (.bipush 11, 2) := by decide +kernel
theorem dL_isWater_196 : decode cL_isWater 196 = .ok (.iaload, 1) := by decide +kernel
theorem dL_isWater_197 : decode cL_isWater 197 = .ok (.if_icmp .ne 31, 3) := by decide +kernel
theorem dL_isWater_200 : decode cL_isWater 200 = .ok (.aload_n 0, 1) := by decide +kernel
theorem dL_isWater_201 : decode cL_isWater 201 = .ok (.bipush 9, 2) := by decide +kernel
theorem dL_isWater_203 : decode cL_isWater 203 = .ok (.invokevirtual 53, 3) := by decide +kernel
theorem dL_isWater_206 : decode cL_isWater 206 = .ok (.aload_n 1, 1) := by decide +kernel
theorem dL_isWater_207 : decode cL_isWater 207 = .ok (.bipush 12, 2) := by decide +kernel
theorem dL_isWater_209 : decode cL_isWater 209 = .ok (.iaload, 1) := by decide +kernel
theorem dL_isWater_210 : decode cL_isWater 210 = .ok (.if_icmp .ne 18, 3) := by decide +kernel
theorem dL_isWater_213 : decode cL_isWater 213 = .ok (.aload_n 0, 1) := by decide +kernel
theorem dL_isWater_214 : decode cL_isWater 214 = .ok (.bipush 10, 2) := by decide +kernel
theorem dL_isWater_216 : decode cL_isWater 216 = .ok (.invokevirtual 53, 3) := by decide +kernel
theorem dL_isWater_219 : decode cL_isWater 219 = .ok (.ldc 49, 2) := by decide +kernel
theorem dL_isWater_221 : decode cL_isWater 221 = .ok (.if_icmp .ne 7, 3) := by decide +kernel
theorem dL_isWater_224 : decode cL_isWater 224 = .ok (.iconst 1, 1) := by decide +kernel
theorem dL_isWater_225 : decode cL_isWater 225 = .ok (.goto 4, 3) := by decide +kernel
theorem dL_isWater_228 : decode cL_isWater 228 = .ok (.iconst 0, 1) := by decide +kernel
theorem dL_isWater_229 : decode cL_isWater 229 = .ok (.ireturn, 1) := by decide +kernel
theorem dL_areNumbers_0 : decode cL_areNumbers 0 = .ok (.iconst 0, 1) := by decide +kernel
theorem dL_areNumbers_1 : decode cL_areNumbers 1 = .ok (.istore 5, 2) := by decide +kernel
theorem dL_areNumbers_3 : decode cL_areNumbers 3 = .ok (.iconst 0, 1) := by decide +kernel
theorem dL_areNumbers_4 : decode cL_areNumbers 4 = .ok (.istore 6, 2) := by decide +kernel
theorem dL_areNumbers_6 : decode cL_areNumbers 6 = .ok (.iconst 0, 1) := by decide +kernel
theorem dL_areNumbers_7 : decode cL_areNumbers 7 = .ok (.istore 7, 2) := by decide +kernel
theorem dL_areNumbers_9 : decode cL_areNumbers 9 = .ok (.iconst 1, 1) := by decide +kernel
theorem dL_areNumbers_10 : decode cL_areNumbers 10 = .ok (.istore 8, 2) := by decide +kernel
theorem dL_areNumbers_12 : decode cL_areNumbers 12 = .ok (.iconst 0, 1) := by decide +kernel
theorem dL_areNumbers_13 : decode cL_areNumbers 13 = .ok (.istore 9, 2) := by decide +kernel
theorem dL_areNumbers_15 : decode cL_areNumbers 15 = .ok (.iload 9, 2) := by decide +kernel
theorem dL_areNumbers_17 : decode cL_areNumbers 17 = .ok (.aload_n 1, 1) := by decide +kernel
theorem dL_areNumbers_18 : decode cL_areNumbers 18 = .ok (.bipush 18, 2) := by decide +kernel
theorem dL_areNumbers_20 : decode cL_areNumbers 20 = .ok (.iaload, 1) := by decide +kernel
theorem dL_areNumbers_21 : decode cL_areNumbers 21 = .ok (.if_icmp .ge 168, 3) := by decide +kernel
theorem dL_areNumbers_24 : decode cL_areNumbers 24 = .ok (.iconst 0, 1) := by decide +kernel
theorem dL_areNumbers_25 : decode cL_areNumbers 25 = .ok (.istore 10, 2) := by decide +kernel
theorem dL_areNumbers_27 : decode cL_areNumbers 27 = .ok (.iconst 0, 1) := by decide +kernel
theorem dL_areNumbers_28 : decode cL_areNumbers 28 = .ok (.istore 11, 2) := by decide +kernel
theorem dL_areNumbers_30 : decode cL_areNumbers 30 = .ok (.iload 11, 2) := by decide +kernel
theorem dL_areNumbers_32 : decode cL_areNumbers 32 = .ok (.aload_n 1, 1) := by decide +kernel
theorem dL_areNumbers_33 : decode cL_areNumbers 33 = .ok (.bipush 18, 2) := by decide +kernel
theorem dL_areNumbers_35 : decode cL_areNumbers 35 = .ok (.iaload, 1) := by decide +kernel
theorem dL_areNumbers_36 : decode cL_areNumbers 36 = .ok (.if_icmp .ge 64, 3) := by decide +kernel
theorem dL_areNumbers_39 : decode cL_areNumbers 39 = .ok (.iload 10, 2) := by decide +kernel
theorem dL_areNumbers_41 : decode cL_areNumbers 41 = .ok (.aload_n 1, 1) := by decide +kernel
theorem dL_areNumbers_42 : decode cL_areNumbers 42 = .ok (.aload_n 2, 1) := by decide +kernel
theorem dL_areNumbers_43 : decode cL_areNumbers 43 = .ok (.aload_n 3, 1) := by decide +kernel
theorem dL_areNumbers_44 : decode cL_areNumbers 44 = .ok (.iload 11, 2) := by decide +kernel
theorem dL_areNumbers_46 : decode cL_areNumbers 46 = .ok (.invokestatic 35, 3) := by decide +kernel
theorem dL_areNumbers_49 : decode cL_areNumbers 49 = .ok (.aload_n 1, 1) := by decide +kernel
theorem dL_areNumbers_50 : decode cL_areNumbers 50 = .ok (.aload_n 2, 1) := by decide +kernel
theorem dL_areNumbers_51 : decode cL_areNumbers 51 = .ok (.aload_n 3, 1) := by decide +kernel
theorem dL_areNumbers_52 : decode cL_areNumbers 52 = .ok (.iload 9, 2) := by decide +kernel
theorem dL_areNumbers_54 : decode cL_areNumbers 54 = .ok (.invokestatic 35, 3) := by decide +kernel
theorem dL_areNumbers_57 : decode cL_areNumbers 57 = .ok (.if_icmp .gt 29, 3) := by decide +kernel
theorem dL_areNumbers_60 : decode cL_areNumbers 60 = .ok (.aload_n 1, 1) := by decide +kernel
theorem dL_areNumbers_61 : decode cL_areNumbers 61 = .ok (.aload_n 2, 1) := by decide +kernel
theorem dL_areNumbers_62 : decode cL_areNumbers 62 = .ok (.aload_n 3, 1) := by decide +kernel
theorem dL_areNumbers_63 : decode cL_areNumbers 63 = .ok (.iload 11, 2) := by decide +kernel
theorem dL_areNumbers_65 : decode cL_areNumbers 65 = .ok (.invokestatic 35, 3) := by decide +kernel
theorem dL_areNumbers_68 : decode cL_areNumbers 68 = .ok (.aload_n 1, 1) := by decide +kernel
theorem dL_areNumbers_69 : decode cL_areNumbers 69 = .ok (.aload_n 2, 1) := by decide +kernel
theorem dL_areNumbers_70 : decode cL_areNumbers 70 = .ok (.aload_n 3, 1) := by decide +kernel
theorem dL_areNumbers_71 : decode cL_areNumbers 71 = .ok (.iload 9, 2) := by decide +kernel
theorem dL_areNumbers_73 : decode cL_areNumbers 73 = .ok (.invokestatic 35, 3) := by decide +kernel
theorem dL_areNumbers_76 : decode cL_areNumbers 76 = .ok (.if_icmp .ne 14, 3) := by decide +kernel
theorem dL_areNumbers_79 : decode cL_areNumbers 79 = .ok (.iload 11, 2) := by decide +kernel
theorem dL_areNumbers_81 : decode cL_areNumbers 81 = .ok (.iload 9, 2) := by decide +kernel
theorem dL_areNumbers_83 : decode cL_areNumbers 83 = .ok (.if_icmp .ge 7, 3) := by decide +kernel
theorem dL_areNumbers_86 : decode cL_areNumbers 86 = .ok (.iconst 1, 1) := by decide +kernel
theorem dL_areNumbers_87 : decode cL_areNumbers 87 = .ok (.goto 4, 3) := by decide +kernel
theorem dL_areNumbers_90 : decode cL_areNumbers 90 = .ok (.iconst 0, 1) := by decide +kernel
theorem dL_areNumbers_91 : decode cL_areNumbers 91 = .ok (.iadd, 1) := by decide +kernel
theorem dL_areNumbers_92 : decode cL_areNumbers 92 = .ok (.istore 10, 2) := by decide +kernel
theorem dL_areNumbers_94 : decode cL_areNumbers 94 = .ok (.iinc 11 1, 3) := by decide +kernel
theorem dL_areNumbers_97 : decode cL_areNumbers 97 = .ok (.goto (-67), 3) := by decide +kernel
theorem dL_areNumbers_100 : decode cL_areNumbers 100 = .ok (.iload 8, 2) := by decide +kernel
theorem dL_areNumbers_102 : decode cL_areNumbers 102 = .ok (.ifCond .eq 18, 3) := by decide +kernel
theorem dL_areNumbers_105 : decode cL_areNumbers 105 = .ok (.aload_n 0, 1) := by decide +kernel
theorem dL_areNumbers_106 : decode cL_areNumbers 106 = .ok (.iload 10, 2) := by decide +kernel
theorem dL_areNumbers_108 : decode cL_areNumbers 108 = .ok (.invokevirtual 57, 3) := by decide +kernel
theorem dL_areNumbers_111 : decode cL_areNumbers 111 = .ok (.iload 9, 2) := by decide +kernel
theorem dL_areNumbers_113 : decode cL_areNumbers 113 = .ok (.if_icmp .ne 7, 3) := by decide +kernel
theorem dL_areNumbers_116 : decode cL_areNumbers 116 = .ok (.iconst 1, 1) := by decide +kernel
theorem dL_areNumbers_117 : decode cL_areNumbers 117 = .ok (.goto 4, 3) := by decide +kernel
theorem dL_areNumbers_120 : decode cL_areNumbers 120 = .ok (.iconst 0, 1) := by decide +kernel
theorem dL_areNumbers_121 : decode cL_areNumbers 121 = .ok (.istore 8, 2) := by decide +kernel
theorem dL_areNumbers_123 : decode cL_areNumbers 123 = .ok (.iload 7, 2) := by decide +kernel
theorem dL_areNumbers_125 : decode cL_areNumbers 125 = .ok (.aload_n 1, 1) := by decide +kernel
theorem dL_areNumbers_126 : decode cL_areNumbers 126 = .ok (.aload_n 2, 1) := by decide +kernel
theorem dL_areNumbers_127 : decode cL_areNumbers 127 = .ok (.aload_n 3, 1) := by decide +kernel
theorem dL_areNumbers_128 : decode cL_areNumbers 128 = .ok (.iload 9, 2) := by decide +kernel
theorem dL_areNumbers_130 : decode cL_areNumbers 130 = .ok (.invokestatic 35, 3) := by decide +kernel
theorem dL_areNumbers_133 : decode cL_areNumbers 133 = .ok (.iadd, 1) := by decide +kernel
theorem dL_areNumbers_134 : decode cL_areNumbers 134 = .ok (.istore 7, 2) := by decide +kernel
theorem dL_areNumbers_136 : decode cL_areNumbers 136 = .ok (.iload 5, 2) := by decide +kernel
theorem dL_areNumbers_138 : decode cL_areNumbers 138 = .ok (.aload_n 1, 1) := by decide +kernel
theorem dL_areNumbers_139 : decode cL_areNumbers 139 = .ok (.aload_n 2, 1) := by decide +kernel
theorem dL_areNumbers_140 : decode cL_areNumbers 140 = .ok (.aload_n 3, 1) := by decide +kernel
theorem dL_areNumbers_141 : decode cL_areNumbers 141 = .ok (.iload 9, 2) := by decide +kernel
theorem dL_areNumbers_143 : decode cL_areNumbers 143 = .ok (.invokestatic 35, 3) := by decide +kernel
theorem dL_areNumbers_146 : decode cL_areNumbers 146 = .ok (.aload_n 1, 1) := by decide +kernel
theorem dL_areNumbers_147 : decode cL_areNumbers 147 = .ok (.iconst 4, 1) := by decide +kernel
theorem dL_areNumbers_148 : decode cL_areNumbers 148 = .ok (.iaload, 1) := by decide +kernel
theorem dL_areNumbers_149 : decode cL_areNumbers 149 = .ok (.if_icmp .le 10, 3) := by decide +kernel
theorem dL_areNumbers_152 : decode cL_areNumbers 152 = .ok (.iconst 1, 1) := by decide +kernel
theorem dL_areNumbers_153 : decode cL_areNumbers 153 = .ok (.iload 9, 2) := by decide +kernel
theorem dL_areNumbers_155 : decode cL_areNumbers 155 = .ok (.ishl, 1) := by decide +kernel
theorem dL_areNumbers_156 : decode cL_areNumbers 156 = .ok (.goto 4, 3) := by decide +kernel
theorem dL_areNumbers_159 : decode cL_areNumbers 159 = .ok (.iconst 0, 1) := by decide +kernel
theorem dL_areNumbers_160 : decode cL_areNumbers 160 = .ok (.ior, 1) := by decide +kernel
theorem dL_areNumbers_161 : decode cL_areNumbers 161 = .ok (.istore 5, 2) := by decide +kernel
theorem dL_areNumbers_163 : decode cL_areNumbers 163 = .ok (.iload 6, 2) := by decide +kernel
theorem dL_areNumbers_165 : decode cL_areNumbers 165 = .ok (.aload_n 2, 1) := by decide +kernel
theorem dL_areNumbers_166 : decode cL_areNumbers 166 = .ok (.iload 9, 2) := by decide +kernel
theorem dL_areNumbers_168 : decode cL_areNumbers 168 = .ok (.iaload, 1) := by decide +kernel
theorem dL_areNumbers_169 : decode cL_areNumbers 169 = .ok (.ifCond .ne 10, 3) := by decide +kernel
theorem dL_areNumbers_172 : decode cL_areNumbers 172 = .ok (.iconst 1, 1) := by decide +kernel
theorem dL_areNumbers_173 : decode cL_areNumbers 173 = .ok (.iload 9, 2) := by decide +kernel
theorem dL_areNumbers_175 : decode cL_areNumbers 175 = .ok (.ishl, 1) := by decide +kernel
theorem dL_areNumbers_176 : decode cL_areNumbers 176 = .ok (.goto 4, 3) := by decide +kernel
theorem dL_areNumbers_179 : decode cL_areNumbers 179 = .ok (.iconst 0, 1) := by decide +kernel
theorem dL_areNumbers_180 : decode cL_areNumbers 180 = .ok (.ior, 1) := by decide +kernel
theorem dL_areNumbers_181 : decode cL_areNumbers 181 = .ok (.istore 6, 2) := by decide +kernel
theorem dL_areNumbers_183 : decode cL_areNumbers 183 = .ok (.iinc 9 1, 3) := by decide +kernel
theorem dL_areNumbers_186 : decode cL_areNumbers 186 = .ok (.goto (-171), 3) := by decide +kernel
theorem dL_areNumbers_189 : decode cL_areNumbers 189 = .ok (.iconst 0, 1) := by decide +kernel
theorem dL_areNumbers_190 : decode cL_areNumbers 190 = .ok (.istore 9, 2) := by decide +kernel
theorem dL_areNumbers_192 : decode cL_areNumbers 192 = .ok (.iload 9, 2) := by decide +kernel
theorem dL_areNumbers_194 : decode cL_areNumbers 194 = .ok (.iconst 5, 1) := by decide +kernel
theorem dL_areNumbers_195 : decode cL_areNumbers 195 = .ok (.if_icmp .ge 98, 3) := by decide +kernel
theorem dL_areNumbers_198 : decode cL_areNumbers 198 = .ok (.iload 8, 2) := by decide +kernel
theorem dL_areNumbers_200 : decode cL_areNumbers 200 = .ok (.ifCond .eq 93, 3) := by decide +kernel
theorem dL_areNumbers_203 : decode cL_areNumbers 203 = .ok (.iconst 0, 1) := by decide +kernel
theorem dL_areNumbers_204 : decode cL_areNumbers 204 = .ok (.istore 10, 2) := by decide +kernel
theorem dL_areNumbers_206 : decode cL_areNumbers 206 = .ok (.iload 10, 2) := by decide +kernel
theorem dL_areNumbers_208 : decode cL_areNumbers 208 = .ok (.iconst 5, 1) := by decide +kernel
theorem dL_areNumbers_209 : decode cL_areNumbers 209 = .ok (.if_icmp .ge 78, 3) := by decide +kernel
theorem dL_areNumbers_212 : decode cL_areNumbers 212 = .ok (.iload 8, 2) := by decide +kernel
theorem dL_areNumbers_214 : decode cL_areNumbers 214 = .ok (.ifCond .eq 64, 3) := by decide +kernel
theorem dL_areNumbers_217 : decode cL_areNumbers 217 = .ok (.aload_n 0, 1) := by decide +kernel
theorem dL_areNumbers_218 : decode cL_areNumbers 218 = .ok (.iload 9, 2) := by decide +kernel
theorem dL_areNumbers_220 : decode cL_areNumbers 220 = .ok (.iload 10, 2) := by decide +kernel
theorem dL_areNumbers_222 : decode cL_areNumbers 222 = .ok (.invokevirtual 60, 3) := by decide +kernel
theorem dL_areNumbers_225 : decode cL_areNumbers 225 = .ok (.iload 9, 2) := by decide +kernel
theorem dL_areNumbers_227 : decode cL_areNumbers 227 = .ok (.aload 4, 2) := by decide +kernel
theorem dL_areNumbers_229 : decode cL_areNumbers 229 = .ok (.iconst 0, 1) := by decide +kernel
theorem dL_areNumbers_230 : decode cL_areNumbers 230 = .ok (.iaload, 1) := by decide +kernel
theorem dL_areNumbers_231 : decode cL_areNumbers 231 = .ok (.if_icmp .ge 38, 3) := by decide +kernel
theorem dL_areNumbers_234 : decode cL_areNumbers 234 = .ok (.iload 10, 2) := by decide +kernel
theorem dL_areNumbers_236 : decode cL_areNumbers 236 = .ok (.aload 4, 2) := by decide +kernel
theorem dL_areNumbers_238 : decode cL_areNumbers 238 = .ok (.iconst 1, 1) := by decide +kernel
theorem dL_areNumbers_239 : decode cL_areNumbers 239 = .ok (.bipush 6, 2) := by decide +kernel
theorem dL_areNumbers_241 : decode cL_areNumbers 241 = .ok (.iload 9, 2) := by decide +kernel
theorem dL_areNumbers_243 : decode cL_areNumbers 243 = .ok (.imul, 1) := by decide +kernel
theorem dL_areNumbers_244 : decode cL_areNumbers 244 = .ok (.iadd, 1) := by decide +kernel
theorem dL_areNumbers_245 : decode cL_areNumbers 245 = .ok (.iaload, 1) := by decide +kernel
theorem dL_areNumbers_246 : decode cL_areNumbers 246 = .ok (.if_icmp .ge 23, 3) := by decide +kernel
theorem dL_areNumbers_249 : decode cL_areNumbers 249 = .ok (.aload 4, 2) := by decide +kernel
theorem dL_areNumbers_251 : decode cL_areNumbers 251 = .ok (.iconst 2, 1) := by decide +kernel
theorem dL_areNumbers_252 : decode cL_areNumbers 252 = .ok (.bipush 6, 2) := by decide +kernel
theorem dL_areNumbers_254 : decode cL_areNumbers 254 = .ok (.iload 9, 2) := by decide +kernel
theorem dL_areNumbers_256 : decode cL_areNumbers 256 = .ok (.imul, 1) := by decide +kernel
theorem dL_areNumbers_257 : decode cL_areNumbers 257 = .ok (.iadd, 1) := by decide +kernel
theorem dL_areNumbers_258 : decode cL_areNumbers 258 = .ok (.iload 10, 2) := by decide +kernel
theorem dL_areNumbers_260 : decode cL_areNumbers 260 = .ok (.iadd, 1) := by decide +kernel
theorem dL_areNumbers_261 : decode cL_areNumbers 261 = .ok (.iaload, 1) := by decide +kernel
theorem dL_areNumbers_262 : decode cL_areNumbers 262 = .ok (.sipush 10000, 3) := by decide +kernel
theorem dL_areNumbers_265 : decode cL_areNumbers 265 = .ok (.iadd, 1) := by decide +kernel
theorem dL_areNumbers_266 : decode cL_areNumbers 266 = .ok (.goto 5, 3) := by decide +kernel
theorem dL_areNumbers_269 : decode cL_areNumbers 269 = .ok (.ldc 48, 2) := by decide +kernel
theorem dL_areNumbers_271 : decode cL_areNumbers 271 = .ok (.if_icmp .ne 7, 3) := by decide +kernel
theorem dL_areNumbers_274 : decode cL_areNumbers 274 = .ok (.iconst 1, 1) := by decide +kernel
theorem dL_areNumbers_275 : decode cL_areNumbers 275 = .ok (.goto 4, 3) := by decide +kernel
theorem dL_areNumbers_278 : decode cL_areNumbers 278 = .ok (.iconst 0, 1) := by decide +kernel
theorem dL_areNumbers_279 : decode cL_areNumbers 279 = .ok (.istore 8, 2) := by decide +kernel
theorem dL_areNumbers_281 : decode cL_areNumbers 281 = .ok (.iinc 10 1, 3) := by decide +kernel
theorem dL_areNumbers_284 : decode cL_areNumbers 284 = .ok (.goto (-78), 3) := by decide +kernel
theorem dL_areNumbers_287 : decode cL_areNumbers 287 = .ok (.iinc 9 1, 3) := by decide +kernel
theorem dL_areNumbers_290 : decode cL_areNumbers 290 = .ok (.goto (-98), 3) := by decide +kernel
theorem dL_areNumbers_293 : decode cL_areNumbers 293 = .ok (.iload 8, 2) := by decide +kernel
theorem dL_areNumbers_295 : decode cL_areNumbers 295 = .ok (.ifCond .eq 76, 3) := by decide +kernel
theorem dL_areNumbers_298 : decode cL_areNumbers 298 = .ok (.aload_n 0, 1) := by decide +kernel
theorem dL_areNumbers_299 : decode cL_areNumbers 299 = .ok (.aload_n 1, 1) := by decide +kernel
theorem dL_areNumbers_300 : decode cL_areNumbers 300 = .ok (.bipush 18, 2) := by decide +kernel
theorem dL_areNumbers_302 : decode cL_areNumbers 302 = .ok (.iaload, 1) := by decide +kernel
theorem dL_areNumbers_303 : decode cL_areNumbers 303 = .ok (.invokevirtual 57, 3) := by decide +kernel
theorem dL_areNumbers_306 : decode cL_areNumbers 306 = .ok (.ldc 48, 2) := by decide +kernel
theorem dL_areNumbers_308 : decode cL_areNumbers 308 = .ok (.if_icmp .ne 63, 3) := by decide +kernel
theorem dL_areNumbers_311 : decode cL_areNumbers 311 = .ok (.aload_n 1, 1) := by decide +kernel
theorem dL_areNumbers_312 : decode cL_areNumbers 312 = .ok (.bipush 18, 2) := by decide +kernel
theorem dL_areNumbers_314 : decode cL_areNumbers 314 = .ok (.iaload, 1) := by decide +kernel
theorem dL_areNumbers_315 : decode cL_areNumbers 315 = .ok (.ifCond .gt 12, 3) := by decide +kernel
theorem dL_areNumbers_318 : decode cL_areNumbers 318 = .ok (.aload_n 0, 1) := by decide +kernel
theorem dL_areNumbers_319 : decode cL_areNumbers 319 = .ok (.invokevirtual 62, 3) := by decide +kernel
theorem dL_areNumbers_322 : decode cL_areNumbers 322 = .ok (.ldc 48, 2) := by decide +kernel
theorem dL_areNumbers_324 : decode cL_areNumbers 324 = .ok (.if_icmp .ne 47, 3) := by decide +kernel
theorem dL_areNumbers_327 : decode cL_areNumbers 327 = .ok (.aload_n 1, 1) := by decide +kernel
theorem dL_areNumbers_328 : decode cL_areNumbers 328 = .ok (.bipush 18, 2) := by decide +kernel
theorem dL_areNumbers_330 : decode cL_areNumbers 330 = .ok (.iaload, 1) := by decide +kernel
theorem dL_areNumbers_331 : decode cL_areNumbers 331 = .ok (.iconst 1, 1) := by decide +kernel
theorem dL_areNumbers_332 : decode cL_areNumbers 332 = .ok (.if_icmp .eq 19, 3) := by decide +kernel
theorem dL_areNumbers_335 : decode cL_areNumbers 335 = .ok (.aload_n 1, 1) := by decide +kernel
theorem dL_areNumbers_336 : decode cL_areNumbers 336 = .ok (.bipush 18, 2) := by decide +kernel
theorem dL_areNumbers_338 : decode cL_areNumbers 338 = .ok (.iaload, 1) := by decide +kernel
theorem dL_areNumbers_339 : decode cL_areNumbers 339 = .ok (.iconst 2, 1) := by decide +kernel
theorem dL_areNumbers_340 : decode cL_areNumbers 340 = .ok (.if_icmp .eq 11, 3) := by decide +kernel
theorem dL_areNumbers_343 : decode cL_areNumbers 343 = .ok (.aload_n 1, 1) := by decide +kernel
theorem dL_areNumbers_344 : decode cL_areNumbers 344 = .ok (.bipush 18, 2) := by decide +kernel
theorem dL_areNumbers_346 : decode cL_areNumbers 346 = .ok (.iaload, 1) := by decide +kernel
theorem dL_areNumbers_347 : decode cL_areNumbers 347 = .ok (.iconst 4, 1) := by decide +kernel
theorem dL_areNumbers_348 : decode cL_areNumbers 348 = .ok (.if_icmp .ne 19, 3) := by decide +kernel
theorem dL_areNumbers_351 : decode cL_areNumbers 351 = .ok (.aload_n 0, 1) := by decide +kernel
theorem dL_areNumbers_352 : decode cL_areNumbers 352 = .ok (.invokevirtual 62, 3) := by decide +kernel
theorem dL_areNumbers_355 : decode cL_areNumbers 355 = .ok (.iload 7, 2) := by decide +kernel
theorem dL_areNumbers_357 : decode cL_areNumbers 357 = .ok (.aload_n 1, 1) := by decide +kernel
theorem dL_areNumbers_358 : decode cL_areNumbers 358 = .ok (.bipush 18, 2) := by decide +kernel
theorem dL_areNumbers_360 : decode cL_areNumbers 360 = .ok (.iaload, 1) := by decide +kernel
theorem dL_areNumbers_361 : decode cL_areNumbers 361 = .ok (.invokestatic 66, 3) := by decide +kernel
theorem dL_areNumbers_364 : decode cL_areNumbers 364 = .ok (.ifCond .eq 7, 3) := by decide +kernel
theorem dL_areNumbers_367 : decode cL_areNumbers 367 = .ok (.iconst 1, 1) := by decide +kernel
theorem dL_areNumbers_368 : decode cL_areNumbers 368 = .ok (.goto 4, 3) := by decide +kernel
theorem dL_areNumbers_371 : decode cL_areNumbers 371 = .ok (.iconst 0, 1) := by decide +kernel
theorem dL_areNumbers_372 : decode cL_areNumbers 372 = .ok (.istore 8, 2) := by decide +kernel
theorem dL_areNumbers_374 : decode cL_areNumbers 374 = .ok (.iload 8, 2) := by decide +kernel
theorem dL_areNumbers_376 : decode cL_areNumbers 376 = .ok (.ifCond .eq 101, 3) := by decide +kernel
theorem dL_areNumbers_379 : decode cL_areNumbers 379 = .ok (.aload_n 0, 1) := by decide +kernel
theorem dL_areNumbers_380 : decode cL_areNumbers 380 = .ok (.iconst 0, 1) := by decide +kernel
theorem dL_areNumbers_381 : decode cL_areNumbers 381 = .ok (.invokevirtual 70, 3) := by decide +kernel
theorem dL_areNumbers_384 : decode cL_areNumbers 384 = .ok (.aload_n 1, 1) := by decide +kernel
theorem dL_areNumbers_385 : decode cL_areNumbers 385 = .ok (.bipush 6, 2) := by decide +kernel
theorem dL_areNumbers_387 : decode cL_areNumbers 387 = .ok (.iaload, 1) := by decide +kernel
theorem dL_areNumbers_388 : decode cL_areNumbers 388 = .ok (.if_icmp .ne 89, 3) := by decide +kernel
theorem dL_areNumbers_391 : decode cL_areNumbers 391 = .ok (.aload_n 0, 1) := by decide +kernel
theorem dL_areNumbers_392 : decode cL_areNumbers 392 = .ok (.iconst 1, 1) := by decide +kernel
theorem dL_areNumbers_393 : decode cL_areNumbers 393 = .ok (.invokevirtual 70, 3) := by decide +kernel
theorem dL_areNumbers_396 : decode cL_areNumbers 396 = .ok (.aload_n 1, 1) := by decide +kernel
theorem dL_areNumbers_397 : decode cL_areNumbers 397 = .ok (.bipush 18, 2) := by decide +kernel
theorem dL_areNumbers_399 : decode cL_areNumbers 399 = .ok (.iaload, 1) := by decide +kernel
theorem dL_areNumbers_400 : decode cL_areNumbers 400 = .ok (.if_icmp .ne 77, 3) := by decide +kernel
theorem dL_areNumbers_403 : decode cL_areNumbers 403 = .ok (.aload_n 0, 1) := by decide +kernel
theorem dL_areNumbers_404 : decode cL_areNumbers 404 = .ok (.iconst 2, 1) := by decide +kernel
theorem dL_areNumbers_405 : decode cL_areNumbers 405 = .ok (.invokevirtual 70, 3) := by decide +kernel
theorem dL_areNumbers_408 : decode cL_areNumbers 408 = .ok (.iload 5, 2) := by decide +kernel
theorem dL_areNumbers_410 : decode cL_areNumbers 410 = .ok (.if_icmp .ne 67, 3) := by decide +kernel
theorem dL_areNumbers_413 : decode cL_areNumbers 413 = .ok (.aload_n 0, 1) := by decide +kernel
theorem dL_areNumbers_414 : decode cL_areNumbers 414 = .ok (.iconst 3, 1) := by decide +kernel
theorem dL_areNumbers_415 : decode cL_areNumbers 415 = .ok (.invokevirtual 70, 3) := by decide +kernel
theorem dL_areNumbers_418 : decode cL_areNumbers 418 = .ok (.iload 6, 2) := by decide +kernel
theorem dL_areNumbers_420 : decode cL_areNumbers 420 = .ok (.if_icmp .ne 57, 3) := by decide +kernel
theorem dL_areNumbers_423 : decode cL_areNumbers 423 = .ok (.aload_n 0, 1) := by decide +kernel
theorem dL_areNumbers_424 : decode cL_areNumbers 424 = .ok (.iconst 4, 1) := by decide +kernel
theorem dL_areNumbers_425 : decode cL_areNumbers 425 = .ok (.invokevirtual 70, 3) := by decide +kernel
theorem dL_areNumbers_428 : decode cL_areNumbers 428 = .ok (.aload_n 1, 1) := by decide +kernel
theorem dL_areNumbers_429 : decode cL_areNumbers 429 = .ok (.bipush 13, 2) := by decide +kernel
theorem dL_areNumbers_431 : decode cL_areNumbers 431 = .ok (.iaload, 1) := by decide +kernel
theorem dL_areNumbers_432 : decode cL_areNumbers 432 = .ok (.if_icmp .ne 45, 3) := by decide +kernel
theorem dL_areNumbers_435 : decode cL_areNumbers 435 = .ok (.aload_n 0, 1) := by decide +kernel
theorem dL_areNumbers_436 : decode cL_areNumbers 436 = .ok (.iconst 5, 1) := by decide +kernel
theorem dL_areNumbers_437 : decode cL_areNumbers 437 = .ok (.invokevirtual 70, 3) := by decide +kernel
theorem dL_areNumbers_440 : decode cL_areNumbers 440 = .ok (.aload_n 1, 1) := by decide +kernel
theorem dL_areNumbers_441 : decode cL_areNumbers 441 = .ok (.bipush 14, 2) := by decide +kernel
theorem dL_areNumbers_443 : decode cL_areNumbers 443 = .ok (.iaload, 1) := by decide +kernel
theorem dL_areNumbers_444 : decode cL_areNumbers 444 = .ok (.if_icmp .ne 33, 3) := by decide +kernel
theorem dL_areNumbers_447 : decode cL_areNumbers 447 = .ok (.aload_n 0, 1) := by decide +kernel
theorem dL_areNumbers_448 : decode cL_areNumbers 448 = .ok (.bipush 6, 2) := by decide +kernel
theorem dL_areNumbers_450 : decode cL_areNumbers 450 = .ok (.invokevirtual 70, 3) := by decide +kernel
theorem dL_areNumbers_453 : decode cL_areNumbers 453 = .ok (.aload_n 1, 1) := by decide +kernel
theorem dL_areNumbers_454 : decode cL_areNumbers 454 = .ok (.bipush 15, 2) := by decide +kernel
theorem dL_areNumbers_456 : decode cL_areNumbers 456 = .ok (.iaload, 1) := by decide +kernel
theorem dL_areNumbers_457 : decode cL_areNumbers 457 = .ok (.if_icmp .ne 20, 3) := by decide +kernel
theorem dL_areNumbers_460 : decode cL_areNumbers 460 = .ok (.aload_n 0, 1) := by decide +kernel
theorem dL_areNumbers_461 : decode cL_areNumbers 461 = .ok (.bipush 7, 2) := by decide +kernel
theorem dL_areNumbers_463 : decode cL_areNumbers 463 = .ok (.invokevirtual 70, 3) := by decide +kernel
theorem dL_areNumbers_466 : decode cL_areNumbers 466 = .ok (.aload_n 1, 1) := by decide +kernel
theorem dL_areNumbers_467 : decode cL_areNumbers 467 = .ok (.bipush 16, 2) := by decide +kernel
theorem dL_areNumbers_469 : decode cL_areNumbers 469 = .ok (.iaload, 1) := by decide +kernel
theorem dL_areNumbers_470 : decode cL_areNumbers 470 = .ok (.if_icmp .ne 7, 3) := by decide +kernel
theorem dL_areNumbers_473 : decode cL_areNumbers 473 = .ok (.iconst 1, 1) := by decide +kernel
theorem dL_areNumbers_474 : decode cL_areNumbers 474 = .ok (.goto 4, 3) := by decide +kernel
theorem dL_areNumbers_477 : decode cL_areNumbers 477 = .ok (.iconst 0, 1) := by decide +kernel
theorem dL_areNumbers_478 : decode cL_areNumbers 478 = .ok (.istore 8, 2) := by decide +kernel
theorem dL_areNumbers_480 : decode cL_areNumbers 480 = .ok (.iload 8, 2) := by decide +kernel
theorem dL_areNumbers_482 : decode cL_areNumbers 482 = .ok (.ifCond .eq 89, 3) := by decide +kernel
theorem dL_areNumbers_485 : decode cL_areNumbers 485 = .ok (.aload_n 0, 1) := by decide +kernel
theorem dL_areNumbers_486 : decode cL_areNumbers 486 = .ok (.bipush 8, 2) := by decide +kernel
theorem dL_areNumbers_488 : decode cL_areNumbers 488 = .ok (.invokevirtual 70, 3) := by decide +kernel
theorem dL_areNumbers_491 : decode cL_areNumbers 491 = .ok (.ifCond .le 80, 3) := by decide +kernel
theorem dL_areNumbers_494 : decode cL_areNumbers 494 = .ok (.aload_n 0, 1) := by decide +kernel
theorem dL_areNumbers_495 : decode cL_areNumbers 495 = .ok (.bipush 8, 2) := by decide +kernel
theorem dL_areNumbers_497 : decode cL_areNumbers 497 = .ok (.invokevirtual 70, 3) := by decide +kernel
theorem dL_areNumbers_500 : decode cL_areNumbers 500 = .ok (.bipush 12, 2) := by decide +kernel
theorem dL_areNumbers_502 : decode cL_areNumbers 502 = .ok (.aload_n 1, 1) := by decide +kernel
theorem dL_areNumbers_503 : decode cL_areNumbers 503 = .ok (.iconst 3, 1) := by decide +kernel
theorem dL_areNumbers_504 : decode cL_areNumbers 504 = .ok (.iaload, 1) := by decide +kernel
theorem dL_areNumbers_505 : decode cL_areNumbers 505 = .ok (.imul, 1) := by decide +kernel
theorem dL_areNumbers_506 : decode cL_areNumbers 506 = .ok (.if_icmp .gt 65, 3) := by decide +kernel
theorem dL_areNumbers_509 : decode cL_areNumbers 509 = .ok (.aload_n 1, 1) := by decide +kernel
theorem dL_areNumbers_510 : decode cL_areNumbers 510 = .ok (.bipush 6, 2) := by decide +kernel
theorem dL_areNumbers_512 : decode cL_areNumbers 512 = .ok (.iaload, 1) := by decide +kernel
theorem dL_areNumbers_513 : decode cL_areNumbers 513 = .ok (.aload_n 0, 1) := by decide +kernel
theorem dL_areNumbers_514 : decode cL_areNumbers 514 = .ok (.bipush 8, 2) := by decide +kernel
theorem dL_areNumbers_516 : decode cL_areNumbers 516 = .ok (.invokevirtual 70, 3) := by decide +kernel
theorem dL_areNumbers_519 : decode cL_areNumbers 519 = .ok (.iadd, 1) := by decide +kernel
theorem dL_areNumbers_520 : decode cL_areNumbers 520 = .ok (.bipush 12, 2) := by decide +kernel
theorem dL_areNumbers_522 : decode cL_areNumbers 522 = .ok (.aload_n 1, 1) := by decide +kernel
theorem dL_areNumbers_523 : decode cL_areNumbers 523 = .ok (.iconst 3, 1) := by decide +kernel
theorem dL_areNumbers_524 : decode cL_areNumbers 524 = .ok (.iaload, 1) := by decide +kernel
theorem dL_areNumbers_525 : decode cL_areNumbers 525 = .ok (.imul, 1) := by decide +kernel
theorem dL_areNumbers_526 : decode cL_areNumbers 526 = .ok (.irem, 1) := by decide +kernel
theorem dL_areNumbers_527 : decode cL_areNumbers 527 = .ok (.ifCond .ne 44, 3) := by decide +kernel
theorem dL_areNumbers_530 : decode cL_areNumbers 530 = .ok (.aload_n 0, 1) := by decide +kernel
theorem dL_areNumbers_531 : decode cL_areNumbers 531 = .ok (.bipush 9, 2) := by decide +kernel
theorem dL_areNumbers_533 : decode cL_areNumbers 533 = .ok (.invokevirtual 70, 3) := by decide +kernel
theorem dL_areNumbers_536 : decode cL_areNumbers 536 = .ok (.aload_n 1, 1) := by decide +kernel
theorem dL_areNumbers_537 : decode cL_areNumbers 537 = .ok (.bipush 17, 2) := by decide +kernel
theorem dL_areNumbers_539 : decode cL_areNumbers 539 = .ok (.iaload, 1) := by decide +kernel
theorem dL_areNumbers_540 : decode cL_areNumbers 540 = .ok (.if_icmp .ne 31, 3) := by decide +kernel
theorem dL_areNumbers_543 : decode cL_areNumbers 543 = .ok (.aload_n 0, 1) := by decide +kernel
theorem dL_areNumbers_544 : decode cL_areNumbers 544 = .ok (.bipush 10, 2) := by decide +kernel
theorem dL_areNumbers_546 : decode cL_areNumbers 546 = .ok (.invokevirtual 70, 3) := by decide +kernel
theorem dL_areNumbers_549 : decode cL_areNumbers 549 = .ok (.aload 4, 2) := by decide +kernel
theorem dL_areNumbers_551 : decode cL_areNumbers 551 = .ok (.iconst 0, 1) := by decide +kernel
theorem dL_areNumbers_552 : decode cL_areNumbers 552 = .ok (.iaload, 1) := by decide +kernel
theorem dL_areNumbers_553 : decode cL_areNumbers 553 = .ok (.if_icmp .ne 18, 3) := by decide +kernel
theorem dL_areNumbers_556 : decode cL_areNumbers 556 = .ok (.aload_n 0, 1) := by decide +kernel
theorem dL_areNumbers_557 : decode cL_areNumbers 557 = .ok (.bipush 13, 2) := by decide +kernel
theorem dL_areNumbers_559 : decode cL_areNumbers 559 = .ok (.invokevirtual 70, 3) := by decide +kernel
theorem dL_areNumbers_562 : decode cL_areNumbers 562 = .ok (.ldc 49, 2) := by decide +kernel
theorem dL_areNumbers_564 : decode cL_areNumbers 564 = .ok (.if_icmp .ne 7, 3) := by decide +kernel
theorem dL_areNumbers_567 : decode cL_areNumbers 567 = .ok (.iconst 1, 1) := by decide +kernel
theorem dL_areNumbers_568 : decode cL_areNumbers 568 = .ok (.goto 4, 3) := by decide +kernel
theorem dL_areNumbers_571 : decode cL_areNumbers 571 = .ok (.iconst 0, 1) := by decide +kernel
theorem dL_areNumbers_572 : decode cL_areNumbers 572 = .ok (.istore 8, 2) := by decide +kernel
theorem dL_areNumbers_574 : decode cL_areNumbers 574 = .ok (.iconst 0, 1) := by decide +kernel
theorem dL_areNumbers_575 : decode cL_areNumbers 575 = .ok (.istore 9, 2) := by decide +kernel
theorem dL_areNumbers_577 : decode cL_areNumbers 577 = .ok (.iload 9, 2) := by decide +kernel
theorem dL_areNumbers_579 : decode cL_areNumbers 579 = .ok (.bipush 6, 2) := by decide +kernel
theorem dL_areNumbers_581 : decode cL_areNumbers 581 = .ok (.if_icmp .ge 37, 3) := by decide +kernel
theorem dL_areNumbers_584 : decode cL_areNumbers 584 = .ok (.iload 8, 2) := by decide +kernel
theorem dL_areNumbers_586 : decode cL_areNumbers 586 = .ok (.ifCond .eq 23, 3) := by decide +kernel
theorem dL_areNumbers_589 : decode cL_areNumbers 589 = .ok (.aload_n 0, 1) := by decide +kernel
theorem dL_areNumbers_590 : decode cL_areNumbers 590 = .ok (.bipush 20, 2) := by decide +kernel
theorem dL_areNumbers_592 : decode cL_areNumbers 592 = .ok (.iload 9, 2) := by decide +kernel
theorem dL_areNumbers_594 : decode cL_areNumbers 594 = .ok (.iadd, 1) := by decide +kernel
theorem dL_areNumbers_595 : decode cL_areNumbers 595 = .ok (.invokevirtual 70, 3) := by decide +kernel
theorem dL_areNumbers_598 : decode cL_areNumbers 598 = .ok (.aload_n 1, 1) := by decide +kernel
theorem dL_areNumbers_599 : decode cL_areNumbers 599 = .ok (.iload 9, 2) := by decide +kernel
theorem dL_areNumbers_601 : decode cL_areNumbers 601 = .ok (.iaload, 1) := by decide +kernel
theorem dL_areNumbers_602 : decode cL_areNumbers 602 = .ok (.if_icmp .ne 7, 3) := by decide +kernel
theorem dL_areNumbers_605 : decode cL_areNumbers 605 = .ok (.iconst 1, 1) := by decide +kernel
theorem dL_areNumbers_606 : decode cL_areNumbers 606 = .ok (.goto 4, 3) := by decide +kernel
theorem dL_areNumbers_609 : decode cL_areNumbers 609 = .ok (.iconst 0, 1) := by decide +kernel
theorem dL_areNumbers_610 : decode cL_areNumbers 610 = .ok (.istore 8, 2) := by decide +kernel
theorem dL_areNumbers_612 : decode cL_areNumbers 612 = .ok (.iinc 9 1, 3) := by decide +kernel
theorem dL_areNumbers_615 : decode cL_areNumbers 615 = .ok (.goto (-38), 3) := by decide +kernel
theorem dL_areNumbers_618 : decode cL_areNumbers 618 = .ok (.iload 8, 2) := by decide +kernel
theorem dL_areNumbers_620 : decode cL_areNumbers 620 = .ok (.ireturn, 1) := by decide +kernel
theorem dL_isMean_0 : decode cL_isMean 0 = .ok (.iload_n 1, 1) := by decide +kernel
theorem dL_isMean_1 : decode cL_isMean 1 = .ok (.iconst 4, 1) := by decide +kernel
theorem dL_isMean_2 : decode cL_isMean 2 = .ok (.iload_n 2, 1) := by decide +kernel
theorem dL_isMean_3 : decode cL_isMean 3 = .ok (.idiv, 1) := by decide +kernel
theorem dL_isMean_4 : decode cL_isMean 4 = .ok (.imul, 1) := by decide +kernel
theorem dL_isMean_5 : decode cL_isMean 5 = .ok (.istore_n 3, 1) := by decide +kernel
theorem dL_isMean_6 : decode cL_isMean 6 = .ok (.iload_n 3, 1) := by decide +kernel
theorem dL_isMean_7 : decode cL_isMean 7 = .ok (.ifCond .ne 13, 3) := by decide +kernel
theorem dL_isMean_10 : decode cL_isMean 10 = .ok (.iload_n 0, 1) := by decide +kernel
theorem dL_isMean_11 : decode cL_isMean 11 = .ok (.ifCond .ne 7, 3) := by decide +kernel
theorem dL_isMean_14 : decode cL_isMean 14 = .ok (.iconst 1, 1) := by decide +kernel
theorem dL_isMean_15 : decode cL_isMean 15 = .ok (.goto 4, 3) := by decide +kernel
theorem dL_isMean_18 : decode cL_isMean 18 = .ok (.iconst 0, 1) := by decide +kernel
theorem dL_isMean_19 : decode cL_isMean 19 = .ok (.ireturn, 1) := by decide +kernel
theorem dL_isMean_20 : decode cL_isMean 20 = .ok (.iconst 0, 1) := by decide +kernel
theorem dL_isMean_21 : decode cL_isMean 21 = .ok (.istore 4, 2) := by decide +kernel
theorem dL_isMean_23 : decode cL_isMean 23 = .ok (.iload_n 3, 1) := by decide +kernel
theorem dL_isMean_24 : decode cL_isMean 24 = .ok (.iload 4, 2) := by decide +kernel
theorem dL_isMean_26 : decode cL_isMean 26 = .ok (.iconst 1, 1) := by decide +kernel
theorem dL_isMean_27 : decode cL_isMean 27 = .ok (.iadd, 1) := by decide +kernel
theorem dL_isMean_28 : decode cL_isMean 28 = .ok (.ishr, 1) := by decide +kernel
theorem dL_isMean_29 : decode cL_isMean 29 = .ok (.ifCond .le 9, 3) := by decide +kernel
theorem dL_isMean_32 : decode cL_isMean 32 = .ok (.iinc 4 1, 3) := by decide +kernel
theorem dL_isMean_35 : decode cL_isMean 35 = .ok (.goto (-12), 3) := by decide +kernel
theorem dL_isMean_38 : decode cL_isMean 38 = .ok (.iload_n 0, 1) := by decide +kernel
theorem dL_isMean_39 : decode cL_isMean 39 = .ok (.iload 4, 2) := by decide +kernel
theorem dL_isMean_41 : decode cL_isMean 41 = .ok (.bipush 125, 2) := by decide +kernel
theorem dL_isMean_43 : decode cL_isMean 43 = .ok (.iadd, 1) := by decide +kernel
theorem dL_isMean_44 : decode cL_isMean 44 = .ok (.bipush 23, 2) := by decide +kernel
theorem dL_isMean_46 : decode cL_isMean 46 = .ok (.ishl, 1) := by decide +kernel
theorem dL_isMean_47 : decode cL_isMean 47 = .ok (.iload_n 3, 1) := by decide +kernel
theorem dL_isMean_48 : decode cL_isMean 48 = .ok (.iconst 1, 1) := by decide +kernel
theorem dL_isMean_49 : decode cL_isMean 49 = .ok (.iload 4, 2) := by decide +kernel
theorem dL_isMean_51 : decode cL_isMean 51 = .ok (.ishl, 1) := by decide +kernel
theorem dL_isMean_52 : decode cL_isMean 52 = .ok (.isub, 1) := by decide +kernel
theorem dL_isMean_53 : decode cL_isMean 53 = .ok (.bipush 23, 2) := by decide +kernel
theorem dL_isMean_55 : decode cL_isMean 55 = .ok (.iload 4, 2) := by decide +kernel
theorem dL_isMean_57 : decode cL_isMean 57 = .ok (.isub, 1) := by decide +kernel
theorem dL_isMean_58 : decode cL_isMean 58 = .ok (.ishl, 1) := by decide +kernel
theorem dL_isMean_59 : decode cL_isMean 59 = .ok (.iadd, 1) := by decide +kernel
theorem dL_isMean_60 : decode cL_isMean 60 = .ok (.if_icmp .ne 7, 3) := by decide +kernel
theorem dL_isMean_63 : decode cL_isMean 63 = .ok (.iconst 1, 1) := by decide +kernel
theorem dL_isMean_64 : decode cL_isMean 64 = .ok (.goto 4, 3) := by decide +kernel
theorem dL_isMean_67 : decode cL_isMean 67 = .ok (.iconst 0, 1) := by decide +kernel
theorem dL_isMean_68 : decode cL_isMean 68 = .ok (.ireturn, 1) := by decide +kernel
theorem dL_copy_0 : decode cL_copy 0 = .ok (.iconst 0, 1) := by decide +kernel
theorem dL_copy_1 : decode cL_copy 1 = .ok (.istore_n 2, 1) := by decide +kernel
theorem dL_copy_2 : decode cL_copy 2 = .ok (.iload_n 2, 1) := by decide +kernel
theorem dL_copy_3 : decode cL_copy 3 = .ok (.aload_n 0, 1) := by decide +kernel
theorem dL_copy_4 : decode cL_copy 4 = .ok (.arraylength, 1) := by decide +kernel
theorem dL_copy_5 : decode cL_copy 5 = .ok (.if_icmp .ge 15, 3) := by decide +kernel
theorem dL_copy_8 : decode cL_copy 8 = .ok (.aload_n 1, 1) := by decide +kernel
theorem dL_copy_9 : decode cL_copy 9 = .ok (.iload_n 2, 1) := by decide +kernel
theorem dL_copy_10 : decode cL_copy 10 = .ok (.aload_n 0, 1) := by decide +kernel
theorem dL_copy_11 : decode cL_copy 11 = .ok (.iload_n 2, 1) := by decide +kernel
theorem dL_copy_12 : decode cL_copy 12 = .ok (.iaload, 1) := by decide +kernel
theorem dL_copy_13 : decode cL_copy 13 = .ok (.iastore, 1) := by decide +kernel
theorem dL_copy_14 : decode cL_copy 14 = .ok (.iinc 2 1, 3) := by decide +kernel
theorem dL_copy_17 : decode cL_copy 17 = .ok (.goto (-15), 3) := by decide +kernel
theorem dL_copy_20 : decode cL_copy 20 = .ok (.return_, 1) := by decide +kernel
theorem dL_would_0 : decode cL_would 0 = .ok (.aload_n 1, 1) := by decide +kernel
theorem dL_would_1 : decode cL_would 1 = .ok (.bipush 18, 2) := by decide +kernel
theorem dL_would_3 : decode cL_would 3 = .ok (.iaload, 1) := by decide +kernel
theorem dL_would_4 : decode cL_would 4 = .ok (.ifCond .ne 51, 3) := by decide +kernel
theorem dL_would_7 : decode cL_would 7 = .ok (.aload_n 0, 1) := by decide +kernel
theorem dL_would_8 : decode cL_would 8 = .ok (.iconst 0, 1) := by decide +kernel
theorem dL_would_9 : decode cL_would 9 = .ok (.invokevirtual 73, 3) := by decide +kernel
theorem dL_would_12 : decode cL_would 12 = .ok (.ldc 49, 2) := by decide +kernel
theorem dL_would_14 : decode cL_would 14 = .ok (.if_icmp .ne 39, 3) := by decide +kernel
theorem dL_would_17 : decode cL_would 17 = .ok (.aload_n 0, 1) := by decide +kernel
theorem dL_would_18 : decode cL_would 18 = .ok (.iconst 0, 1) := by decide +kernel
theorem dL_would_19 : decode cL_would 19 = .ok (.invokevirtual 76, 3) := by decide +kernel
theorem dL_would_22 : decode cL_would 22 = .ok (.ldc 49, 2) := by decide +kernel
theorem dL_would_24 : decode cL_would 24 = .ok (.if_icmp .ne 29, 3) := by decide +kernel
theorem dL_would_27 : decode cL_would 27 = .ok (.aload_n 0, 1) := by decide +kernel
theorem dL_would_28 : decode cL_would 28 = .ok (.iconst 0, 1) := by decide +kernel
theorem dL_would_29 : decode cL_would 29 = .ok (.iconst 0, 1) := by decide +kernel
theorem dL_would_30 : decode cL_would 30 = .ok (.invokevirtual 79, 3) := by decide +kernel
theorem dL_would_33 : decode cL_would 33 = .ok (.ldc 49, 2) := by decide +kernel
theorem dL_would_35 : decode cL_would 35 = .ok (.if_icmp .ne 18, 3) := by decide +kernel
theorem dL_would_38 : decode cL_would 38 = .ok (.aload_n 0, 1) := by decide +kernel
theorem dL_would_39 : decode cL_would 39 = .ok (.iconst 0, 1) := by decide +kernel
theorem dL_would_40 : decode cL_would 40 = .ok (.iconst 0, 1) := by decide +kernel
theorem dL_would_41 : decode cL_would 41 = .ok (.invokevirtual 82, 3) := by decide +kernel
theorem dL_would_44 : decode cL_would 44 = .ok (.ldc 49, 2) := by decide +kernel
theorem dL_would_46 : decode cL_would 46 = .ok (.if_icmp .ne 7, 3) := by decide +kernel
theorem dL_would_49 : decode cL_would 49 = .ok (.iconst 1, 1) := by decide +kernel
theorem dL_would_50 : decode cL_would 50 = .ok (.goto 4, 3) := by decide +kernel
theorem dL_would_53 : decode cL_would 53 = .ok (.iconst 0, 1) := by decide +kernel
theorem dL_would_54 : decode cL_would 54 = .ok (.ireturn, 1) := by decide +kernel
theorem dL_would_55 : decode cL_would 55 = .ok (.iload 5, 2) := by decide +kernel
theorem dL_would_57 : decode cL_would 57 = .ok (.aload_n 1, 1) := by decide +kernel
theorem dL_would_58 : decode cL_would 58 = .ok (.bipush 18, 2) := by decide +kernel
theorem dL_would_60 : decode cL_would 60 = .ok (.iaload, 1) := by decide +kernel
theorem dL_would_61 : decode cL_would 61 = .ok (.invokestatic 85, 3) := by decide +kernel
theorem dL_would_64 : decode cL_would 64 = .ok (.istore 6, 2) := by decide +kernel
theorem dL_would_66 : decode cL_would 66 = .ok (.iload 5, 2) := by decide +kernel
theorem dL_would_68 : decode cL_would 68 = .ok (.iconst 3, 1) := by decide +kernel
theorem dL_would_69 : decode cL_would 69 = .ok (.ishr, 1) := by decide +kernel
theorem dL_would_70 : decode cL_would 70 = .ok (.iconst 3, 1) := by decide +kernel
theorem dL_would_71 : decode cL_would 71 = .ok (.invokestatic 85, 3) := by decide +kernel
theorem dL_would_74 : decode cL_would 74 = .ok (.istore 7, 2) := by decide +kernel
theorem dL_would_76 : decode cL_would 76 = .ok (.iload 7, 2) := by decide +kernel
theorem dL_would_78 : decode cL_would 78 = .ok (.ifCond .ne 8, 3) := by decide +kernel
theorem dL_would_81 : decode cL_would 81 = .ok (.bipush 50, 2) := by decide +kernel
theorem dL_would_83 : decode cL_would 83 = .ok (.goto 18, 3) := by decide +kernel
theorem dL_would_86 : decode cL_would 86 = .ok (.iload 7, 2) := by decide +kernel
theorem dL_would_88 : decode cL_would 88 = .ok (.iconst 1, 1) := by decide +kernel
theorem dL_would_89 : decode cL_would 89 = .ok (.if_icmp .ne 9, 3) := by decide +kernel
theorem dL_would_92 : decode cL_would 92 = .ok (.sipush 200, 3) := by decide +kernel
theorem dL_would_95 : decode cL_would 95 = .ok (.goto 6, 3) := by decide +kernel
theorem dL_would_98 : decode cL_would 98 = .ok (.sipush 700, 3) := by decide +kernel
theorem dL_would_101 : decode cL_would 101 = .ok (.istore 8, 2) := by decide +kernel
theorem dL_would_103 : decode cL_would 103 = .ok (.bipush 19, 2) := by decide +kernel
theorem dL_would_105 : decode cL_would 105 = .ok (.newarray .int, 2) := by decide +kernel
theorem dL_would_107 : decode cL_would 107 = .ok (.astore 9, 2) := by decide +kernel
theorem dL_would_109 : decode cL_would 109 = .ok (.bipush 35, 2) := by decide +kernel
theorem dL_would_111 : decode cL_would 111 = .ok (.newarray .int, 2) := by decide +kernel
theorem dL_would_113 : decode cL_would 113 = .ok (.astore 10, 2) := by decide +kernel
theorem dL_would_115 : decode cL_would 115 = .ok (.bipush 40, 2) := by decide +kernel
theorem dL_would_117 : decode cL_would 117 = .ok (.newarray .int, 2) := by decide +kernel
theorem dL_would_119 : decode cL_would 119 = .ok (.astore 11, 2) := by decide +kernel
theorem dL_would_121 : decode cL_would 121 = .ok (.aload_n 1, 1) := by decide +kernel
theorem dL_would_122 : decode cL_would 122 = .ok (.aload 9, 2) := by decide +kernel
theorem dL_would_124 : decode cL_would 124 = .ok (.invokestatic 88, 3) := by decide +kernel
theorem dL_would_127 : decode cL_would 127 = .ok (.aload_n 2, 1) := by decide +kernel
theorem dL_would_128 : decode cL_would 128 = .ok (.aload 10, 2) := by decide +kernel
theorem dL_would_130 : decode cL_would 130 = .ok (.invokestatic 88, 3) := by decide +kernel
theorem dL_would_133 : decode cL_would 133 = .ok (.aload_n 3, 1) := by decide +kernel
theorem dL_would_134 : decode cL_would 134 = .ok (.aload 11, 2) := by decide +kernel
theorem dL_would_136 : decode cL_would 136 = .ok (.invokestatic 88, 3) := by decide +kernel
theorem dL_would_139 : decode cL_would 139 = .ok (.aload 9, 2) := by decide +kernel
theorem dL_would_141 : decode cL_would 141 = .ok (.aload 10, 2) := by decide +kernel
theorem dL_would_143 : decode cL_would 143 = .ok (.aload 11, 2) := by decide +kernel
theorem dL_would_145 : decode cL_would 145 = .ok (.aload 4, 2) := by decide +kernel
theorem dL_would_147 : decode cL_would 147 = .ok (.sipush 400, 3) := by decide +kernel
theorem dL_would_150 : decode cL_would 150 = .ok (.iconst 0, 1) := by decide +kernel
theorem dL_would_151 : decode cL_would 151 = .ok (.invokestatic 92, 3) := by decide +kernel
theorem dL_would_154 : decode cL_would 154 = .ok (.istore 12, 2) := by decide +kernel
theorem dL_would_156 : decode cL_would 156 = .ok (.aload_n 0, 1) := by decide +kernel
theorem dL_would_157 : decode cL_would 157 = .ok (.iload 6, 2) := by decide +kernel
theorem dL_would_159 : decode cL_would 159 = .ok (.invokevirtual 73, 3) := by decide +kernel
theorem dL_would_162 : decode cL_would 162 = .ok (.aload 9, 2) := by decide +kernel
theorem dL_would_164 : decode cL_would 164 = .ok (.aload 10, 2) := by decide +kernel
theorem dL_would_166 : decode cL_would 166 = .ok (.aload 11, 2) := by decide +kernel
theorem dL_would_168 : decode cL_would 168 = .ok (.iload 6, 2) := by decide +kernel
theorem dL_would_170 : decode cL_would 170 = .ok (.invokestatic 15, 3) := by decide +kernel
theorem dL_would_173 : decode cL_would 173 = .ok (.sipush 10000, 3) := by decide +kernel
theorem dL_would_176 : decode cL_would 176 = .ok (.iadd, 1) := by decide +kernel
theorem dL_would_177 : decode cL_would 177 = .ok (.if_icmp .ne 47, 3) := by decide +kernel
theorem dL_would_180 : decode cL_would 180 = .ok (.iload 12, 2) := by decide +kernel
theorem dL_would_182 : decode cL_would 182 = .ok (.ifCond .lt 42, 3) := by decide +kernel
theorem dL_would_185 : decode cL_would 185 = .ok (.aload_n 0, 1) := by decide +kernel
theorem dL_would_186 : decode cL_would 186 = .ok (.iload 6, 2) := by decide +kernel
theorem dL_would_188 : decode cL_would 188 = .ok (.iload 7, 2) := by decide +kernel
theorem dL_would_190 : decode cL_would 190 = .ok (.invokevirtual 79, 3) := by decide +kernel
theorem dL_would_193 : decode cL_would 193 = .ok (.aload_n 1, 1) := by decide +kernel
theorem dL_would_194 : decode cL_would 194 = .ok (.bipush 7, 2) := by decide +kernel
theorem dL_would_196 : decode cL_would 196 = .ok (.iaload, 1) := by decide +kernel
theorem dL_would_197 : decode cL_would 197 = .ok (.iload 8, 2) := by decide +kernel
theorem dL_would_199 : decode cL_would 199 = .ok (.if_icmp .ge 7, 3) := by decide +kernel
theorem dL_would_202 : decode cL_would 202 = .ok (.iconst 1, 1) := by decide +kernel
theorem dL_would_203 : decode cL_would 203 = .ok (.goto 18, 3) := by decide +kernel
theorem dL_would_206 : decode cL_would 206 = .ok (.aload_n 2, 1) := by decide +kernel
theorem dL_would_207 : decode cL_would 207 = .ok (.iload 6, 2) := by decide +kernel
theorem dL_would_209 : decode cL_would 209 = .ok (.iaload, 1) := by decide +kernel
theorem dL_would_210 : decode cL_would 210 = .ok (.aload_n 1, 1) := by decide +kernel
theorem dL_would_211 : decode cL_would 211 = .ok (.iconst 0, 1) := by decide +kernel
theorem dL_would_212 : decode cL_would 212 = .ok (.iaload, 1) := by decide +kernel
theorem dL_would_213 : decode cL_would 213 = .ok (.if_icmp .lt 7, 3) := by decide +kernel
theorem dL_would_216 : decode cL_would 216 = .ok (.iconst 2, 1) := by decide +kernel
theorem dL_would_217 : decode cL_would 217 = .ok (.goto 4, 3) := by decide +kernel
theorem dL_would_220 : decode cL_would 220 = .ok (.iconst 0, 1) := by decide +kernel
theorem dL_would_221 : decode cL_would 221 = .ok (.if_icmp .eq 5, 3) := by decide +kernel
theorem dL_would_224 : decode cL_would 224 = .ok (.iconst 0, 1) := by decide +kernel
theorem dL_would_225 : decode cL_would 225 = .ok (.ireturn, 1) := by decide +kernel
theorem dL_would_226 : decode cL_would 226 = .ok (.iconst 0, 1) := by decide +kernel
theorem dL_would_227 : decode cL_would 227 = .ok (.istore 13, 2) := by decide +kernel
theorem dL_would_229 : decode cL_would 229 = .ok (.aload 9, 2) := by decide +kernel
theorem dL_would_231 : decode cL_would 231 = .ok (.aload 10, 2) := by decide +kernel
theorem dL_would_233 : decode cL_would 233 = .ok (.aload 11, 2) := by decide +kernel
theorem dL_would_235 : decode cL_would 235 = .ok (.iload 6, 2) := by decide +kernel
theorem dL_would_237 : decode cL_would 237 = .ok (.invokestatic 35, 3) := by decide +kernel
theorem dL_would_240 : decode cL_would 240 = .ok (.istore 14, 2) := by decide +kernel
theorem dL_would_242 : decode cL_would 242 = .ok (.aload 9, 2) := by decide +kernel
theorem dL_would_244 : decode cL_would 244 = .ok (.aload 10, 2) := by decide +kernel
theorem dL_would_246 : decode cL_would 246 = .ok (.aload 11, 2) := by decide +kernel
theorem dL_would_248 : decode cL_would 248 = .ok (.iload 6, 2) := by decide +kernel
theorem dL_would_250 : decode cL_would 250 = .ok (.invokestatic 15, 3) := by decide +kernel
theorem dL_would_253 : decode cL_would 253 = .ok (.istore 15, 2) := by decide +kernel
theorem dL_would_255 : decode cL_would 255 = .ok (.iconst 1, 1) := by decide +kernel
theorem dL_would_256 : decode cL_would 256 = .ok (.istore 16, 2) := by decide +kernel
theorem dL_would_258 : decode cL_would 258 = .ok (.iload 16, 2) := by decide +kernel
theorem dL_would_260 : decode cL_would 260 = .ok (.aload_n 2, 1) := by decide +kernel
theorem dL_would_261 : decode cL_would 261 = .ok (.bipush 10, 2) := by decide +kernel
theorem dL_would_263 : decode cL_would 263 = .ok (.iload 6, 2) := by decide +kernel
theorem dL_would_265 : decode cL_would 265 = .ok (.iadd, 1) := by decide +kernel
theorem dL_would_266 : decode cL_would 266 = .ok (.iaload, 1) := by decide +kernel
theorem dL_would_267 : decode cL_would 267 = .ok (.if_icmp .ge 114, 3) := by decide +kernel
theorem dL_would_270 : decode cL_would 270 = .ok (.iload 5, 2) := by decide +kernel
theorem dL_would_272 : decode cL_would 272 = .ok (.iconst 5, 1) := by decide +kernel
theorem dL_would_273 : decode cL_would 273 = .ok (.ishr, 1) := by decide +kernel
theorem dL_would_274 : decode cL_would 274 = .ok (.iconst 4, 1) := by decide +kernel
theorem dL_would_275 : decode cL_would 275 = .ok (.invokestatic 85, 3) := by decide +kernel
theorem dL_would_278 : decode cL_would 278 = .ok (.ifCond .ne 103, 3) := by decide +kernel
theorem dL_would_281 : decode cL_would 281 = .ok (.aload_n 1, 1) := by decide +kernel
theorem dL_would_282 : decode cL_would 282 = .ok (.aload 9, 2) := by decide +kernel
theorem dL_would_284 : decode cL_would 284 = .ok (.invokestatic 88, 3) := by decide +kernel
theorem dL_would_287 : decode cL_would 287 = .ok (.aload_n 2, 1) := by decide +kernel
theorem dL_would_288 : decode cL_would 288 = .ok (.aload 10, 2) := by decide +kernel
theorem dL_would_290 : decode cL_would 290 = .ok (.invokestatic 88, 3) := by decide +kernel
theorem dL_would_293 : decode cL_would 293 = .ok (.aload_n 3, 1) := by decide +kernel
theorem dL_would_294 : decode cL_would 294 = .ok (.aload 11, 2) := by decide +kernel
theorem dL_would_296 : decode cL_would 296 = .ok (.invokestatic 88, 3) := by decide +kernel
theorem dL_would_299 : decode cL_would 299 = .ok (.aload 10, 2) := by decide +kernel
theorem dL_would_301 : decode cL_would 301 = .ok (.bipush 10, 2) := by decide +kernel
theorem dL_would_303 : decode cL_would 303 = .ok (.iload 6, 2) := by decide +kernel
theorem dL_would_305 : decode cL_would 305 = .ok (.iadd, 1) := by decide +kernel
theorem dL_would_306 : decode cL_would 306 = .ok (.dup2, 1) := by decide +kernel
theorem dL_would_307 : decode cL_would 307 = .ok (.iaload, 1) := by decide +kernel
theorem dL_would_308 : decode cL_would 308 = .ok (.iload 16, 2) := by decide +kernel
theorem dL_would_310 : decode cL_would 310 = .ok (.isub, 1) := by decide +kernel
theorem dL_would_311 : decode cL_would 311 = .ok (.iastore, 1) := by decide +kernel
theorem dL_would_312 : decode cL_would 312 = .ok (.aload 9, 2) := by decide +kernel
theorem dL_would_314 : decode cL_would 314 = .ok (.aload 10, 2) := by decide +kernel
theorem dL_would_316 : decode cL_would 316 = .ok (.aload 11, 2) := by decide +kernel
theorem dL_would_318 : decode cL_would 318 = .ok (.aload 4, 2) := by decide +kernel
theorem dL_would_320 : decode cL_would 320 = .ok (.sipush 400, 3) := by decide +kernel
theorem dL_would_323 : decode cL_would 323 = .ok (.iconst 0, 1) := by decide +kernel
theorem dL_would_324 : decode cL_would 324 = .ok (.invokestatic 92, 3) := by decide +kernel
theorem dL_would_327 : decode cL_would 327 = .ok (.istore 12, 2) := by decide +kernel
theorem dL_would_329 : decode cL_would 329 = .ok (.aload 9, 2) := by decide +kernel
theorem dL_would_331 : decode cL_would 331 = .ok (.aload 10, 2) := by decide +kernel
theorem dL_would_333 : decode cL_would 333 = .ok (.aload 11, 2) := by decide +kernel
theorem dL_would_335 : decode cL_would 335 = .ok (.iload 6, 2) := by decide +kernel
theorem dL_would_337 : decode cL_would 337 = .ok (.invokestatic 35, 3) := by decide +kernel
theorem dL_would_340 : decode cL_would 340 = .ok (.iload 14, 2) := by decide +kernel
theorem dL_would_342 : decode cL_would 342 = .ok (.if_icmp .ge 33, 3) := by decide +kernel
theorem dL_would_345 : decode cL_would 345 = .ok (.iload 16, 2) := by decide +kernel
theorem dL_would_347 : decode cL_would 347 = .ok (.istore 13, 2) := by decide +kernel
theorem dL_would_349 : decode cL_would 349 = .ok (.aload 9, 2) := by decide +kernel
theorem dL_would_351 : decode cL_would 351 = .ok (.aload 10, 2) := by decide +kernel
theorem dL_would_353 : decode cL_would 353 = .ok (.aload 11, 2) := by decide +kernel
theorem dL_would_355 : decode cL_would 355 = .ok (.iload 6, 2) := by decide +kernel
theorem dL_would_357 : decode cL_would 357 = .ok (.invokestatic 35, 3) := by decide +kernel
theorem dL_would_360 : decode cL_would 360 = .ok (.istore 14, 2) := by decide +kernel
theorem dL_would_362 : decode cL_would 362 = .ok (.aload 9, 2) := by decide +kernel
theorem dL_would_364 : decode cL_would 364 = .ok (.aload 10, 2) := by decide +kernel
theorem dL_would_366 : decode cL_would 366 = .ok (.aload 11, 2) := by decide +kernel
theorem dL_would_368 : decode cL_would 368 = .ok (.iload 6, 2) := by decide +kernel
theorem dL_would_370 : decode cL_would 370 = .ok (.invokestatic 15, 3) := by decide +kernel
theorem dL_would_373 : decode cL_would 373 = .ok (.istore 15, 2) := by decide +kernel
theorem dL_would_375 : decode cL_would 375 = .ok (.iinc 16 1, 3) := by decide +kernel
theorem dL_would_378 : decode cL_would 378 = .ok (.goto (-120), 3) := by decide +kernel
theorem dL_would_381 : decode cL_would 381 = .ok (.iload 5, 2) := by decide +kernel
theorem dL_would_383 : decode cL_would 383 = .ok (.iconst 5, 1) := by decide +kernel
theorem dL_would_384 : decode cL_would 384 = .ok (.ishr, 1) := by decide +kernel
theorem dL_would_385 : decode cL_would 385 = .ok (.iconst 4, 1) := by decide +kernel
theorem dL_would_386 : decode cL_would 386 = .ok (.invokestatic 85, 3) := by decide +kernel
theorem dL_would_389 : decode cL_would 389 = .ok (.ifCond .gt 31, 3) := by decide +kernel
theorem dL_would_392 : decode cL_would 392 = .ok (.aload_n 0, 1) := by decide +kernel
theorem dL_would_393 : decode cL_would 393 = .ok (.iload 6, 2) := by decide +kernel
theorem dL_would_395 : decode cL_would 395 = .ok (.iconst 0, 1) := by decide +kernel
theorem dL_would_396 : decode cL_would 396 = .ok (.invokevirtual 82, 3) := by decide +kernel
theorem dL_would_399 : decode cL_would 399 = .ok (.iload 13, 2) := by decide +kernel
theorem dL_would_401 : decode cL_would 401 = .ok (.if_icmp .ne 23, 3) := by decide +kernel
theorem dL_would_404 : decode cL_would 404 = .ok (.aload_n 0, 1) := by decide +kernel
theorem dL_would_405 : decode cL_would 405 = .ok (.iload 6, 2) := by decide +kernel
theorem dL_would_407 : decode cL_would 407 = .ok (.iconst 1, 1) := by decide +kernel
theorem dL_would_408 : decode cL_would 408 = .ok (.invokevirtual 82, 3) := by decide +kernel
theorem dL_would_411 : decode cL_would 411 = .ok (.iload 15, 2) := by decide +kernel
theorem dL_would_413 : decode cL_would 413 = .ok (.sipush 10000, 3) := by decide +kernel
theorem dL_would_416 : decode cL_would 416 = .ok (.iadd, 1) := by decide +kernel
theorem dL_would_417 : decode cL_would 417 = .ok (.if_icmp .ne 7, 3) := by decide +kernel
theorem dL_would_420 : decode cL_would 420 = .ok (.iconst 1, 1) := by decide +kernel
theorem dL_would_421 : decode cL_would 421 = .ok (.goto 4, 3) := by decide +kernel
theorem dL_would_424 : decode cL_would 424 = .ok (.iconst 0, 1) := by decide +kernel
theorem dL_would_425 : decode cL_would 425 = .ok (.ireturn, 1) := by decide +kernel
theorem dL_isEmptyIn_0 : decode cL_isEmptyIn 0 = .ok (.bipush 19, 2) := by decide +kernel
theorem dL_isEmptyIn_2 : decode cL_isEmptyIn 2 = .ok (.newarray .int, 2) := by decide +kernel
theorem dL_isEmptyIn_4 : decode cL_isEmptyIn 4 = .ok (.astore 5, 2) := by decide +kernel
theorem dL_isEmptyIn_6 : decode cL_isEmptyIn 6 = .ok (.bipush 35, 2) := by decide +kernel
theorem dL_isEmptyIn_8 : decode cL_isEmptyIn 8 = .ok (.newarray .int, 2) := by decide +kernel
theorem dL_isEmptyIn_10 : decode cL_isEmptyIn 10 = .ok (.astore 6, 2) := by decide +kernel
theorem dL_isEmptyIn_12 : decode cL_isEmptyIn 12 = .ok (.bipush 40, 2) := by decide +kernel
theorem dL_isEmptyIn_14 : decode cL_isEmptyIn 14 = .ok (.newarray .int, 2) := by decide +kernel
theorem dL_isEmptyIn_16 : decode cL_isEmptyIn 16 = .ok (.astore 7, 2) := by decide +kernel
theorem dL_isEmptyIn_18 : decode cL_isEmptyIn 18 = .ok (.aload_n 1, 1) := by decide +kernel
theorem dL_isEmptyIn_19 : decode cL_isEmptyIn 19 = .ok (.aload 5, 2) := by decide +kernel
theorem dL_isEmptyIn_21 : decode cL_isEmptyIn 21 = .ok (.invokestatic 88, 3) := by decide +kernel
theorem dL_isEmptyIn_24 : decode cL_isEmptyIn 24 = .ok (.aload_n 2, 1) := by decide +kernel
theorem dL_isEmptyIn_25 : decode cL_isEmptyIn 25 = .ok (.aload 6, 2) := by decide +kernel
theorem dL_isEmptyIn_27 : decode cL_isEmptyIn 27 = .ok (.invokestatic 88, 3) := by decide +kernel
theorem dL_isEmptyIn_30 : decode cL_isEmptyIn 30 = .ok (.aload_n 3, 1) := by decide +kernel
theorem dL_isEmptyIn_31 : decode cL_isEmptyIn 31 = .ok (.aload 7, 2) := by decide +kernel
theorem dL_isEmptyIn_33 : decode cL_isEmptyIn 33 = .ok (.invokestatic 88, 3) := by decide +kernel
theorem dL_isEmptyIn_36 : decode cL_isEmptyIn 36 = .ok (.iconst 0, 1) := by decide +kernel
theorem dL_isEmptyIn_37 : decode cL_isEmptyIn 37 = .ok (.istore 8, 2) := by decide +kernel
theorem dL_isEmptyIn_39 : decode cL_isEmptyIn 39 = .ok (.aload 6, 2) := by decide +kernel
theorem dL_isEmptyIn_41 : decode cL_isEmptyIn 41 = .ok (.iload 4, 2) := by decide +kernel
theorem dL_isEmptyIn_43 : decode cL_isEmptyIn 43 = .ok (.iaload, 1) := by decide +kernel
theorem dL_isEmptyIn_44 : decode cL_isEmptyIn 44 = .ok (.ifCond .le 32, 3) := by decide +kernel
theorem dL_isEmptyIn_47 : decode cL_isEmptyIn 47 = .ok (.iload 8, 2) := by decide +kernel
theorem dL_isEmptyIn_49 : decode cL_isEmptyIn 49 = .ok (.sipush 1000, 3) := by decide +kernel
theorem dL_isEmptyIn_52 : decode cL_isEmptyIn 52 = .ok (.if_icmp .ge 24, 3) := by decide +kernel
theorem dL_isEmptyIn_55 : decode cL_isEmptyIn 55 = .ok (.aload 5, 2) := by decide +kernel
theorem dL_isEmptyIn_57 : decode cL_isEmptyIn 57 = .ok (.aload 6, 2) := by decide +kernel
theorem dL_isEmptyIn_59 : decode cL_isEmptyIn 59 = .ok (.aload 7, 2) := by decide +kernel
theorem dL_isEmptyIn_61 : decode cL_isEmptyIn 61 = .ok (.aload 5, 2) := by decide +kernel
theorem dL_isEmptyIn_63 : decode cL_isEmptyIn 63 = .ok (.iconst 1, 1) := by decide +kernel
theorem dL_isEmptyIn_64 : decode cL_isEmptyIn 64 = .ok (.iconst 0, 1) := by decide +kernel
theorem dL_isEmptyIn_65 : decode cL_isEmptyIn 65 = .ok (.invokestatic 92, 3) := by decide +kernel
theorem dL_isEmptyIn_68 : decode cL_isEmptyIn 68 = .ok (.istore 9, 2) := by decide +kernel
theorem dL_isEmptyIn_70 : decode cL_isEmptyIn 70 = .ok (.iinc 8 1, 3) := by decide +kernel
theorem dL_isEmptyIn_73 : decode cL_isEmptyIn 73 = .ok (.goto (-34), 3) := by decide +kernel
theorem dL_isEmptyIn_76 : decode cL_isEmptyIn 76 = .ok (.aload_n 0, 1) := by decide +kernel
theorem dL_isEmptyIn_77 : decode cL_isEmptyIn 77 = .ok (.iload 4, 2) := by decide +kernel
theorem dL_isEmptyIn_79 : decode cL_isEmptyIn 79 = .ok (.invokevirtual 76, 3) := by decide +kernel
theorem dL_isEmptyIn_82 : decode cL_isEmptyIn 82 = .ok (.aload 6, 2) := by decide +kernel
theorem dL_isEmptyIn_84 : decode cL_isEmptyIn 84 = .ok (.iload 4, 2) := by decide +kernel
theorem dL_isEmptyIn_86 : decode cL_isEmptyIn 86 = .ok (.iaload, 1) := by decide +kernel
theorem dL_isEmptyIn_87 : decode cL_isEmptyIn 87 = .ok (.ifCond .le 8, 3) := by decide +kernel
theorem dL_isEmptyIn_90 : decode cL_isEmptyIn 90 = .ok (.ldc 48, 2) := by decide +kernel
theorem dL_isEmptyIn_92 : decode cL_isEmptyIn 92 = .ok (.goto 5, 3) := by decide +kernel
theorem dL_isEmptyIn_95 : decode cL_isEmptyIn 95 = .ok (.iload 8, 2) := by decide +kernel
theorem dL_isEmptyIn_97 : decode cL_isEmptyIn 97 = .ok (.if_icmp .ne 7, 3) := by decide +kernel
theorem dL_isEmptyIn_100 : decode cL_isEmptyIn 100 = .ok (.iconst 1, 1) := by decide +kernel
theorem dL_isEmptyIn_101 : decode cL_isEmptyIn 101 = .ok (.goto 4, 3) := by decide +kernel
theorem dL_isEmptyIn_104 : decode cL_isEmptyIn 104 = .ok (.iconst 0, 1) := by decide +kernel
theorem dL_isEmptyIn_105 : decode cL_isEmptyIn 105 = .ok (.ireturn, 1) := by decide +kernel
theorem dL_adds_0 : decode cL_adds 0 = .ok (.iload 4, 2) := by decide +kernel
theorem dL_adds_2 : decode cL_adds 2 = .ok (.iconst 3, 1) := by decide +kernel
theorem dL_adds_3 : decode cL_adds 3 = .ok (.invokestatic 85, 3) := by decide +kernel
theorem dL_adds_6 : decode cL_adds 6 = .ok (.istore 6, 2) := by decide +kernel
theorem dL_adds_8 : decode cL_adds 8 = .ok (.iconst 1, 1) := by decide +kernel
theorem dL_adds_9 : decode cL_adds 9 = .ok (.iload 5, 2) := by decide +kernel
theorem dL_adds_11 : decode cL_adds 11 = .ok (.bipush 61, 2) := by decide +kernel
theorem dL_adds_13 : decode cL_adds 13 = .ok (.invokestatic 85, 3) := by decide +kernel
theorem dL_adds_16 : decode cL_adds 16 = .ok (.iadd, 1) := by decide +kernel
theorem dL_adds_17 : decode cL_adds 17 = .ok (.istore 7, 2) := by decide +kernel
theorem dL_adds_19 : decode cL_adds 19 = .ok (.iconst 1, 1) := by decide +kernel
theorem dL_adds_20 : decode cL_adds 20 = .ok (.iload 5, 2) := by decide +kernel
theorem dL_adds_22 : decode cL_adds 22 = .ok (.bipush 7, 2) := by decide +kernel
theorem dL_adds_24 : decode cL_adds 24 = .ok (.ishr, 1) := by decide +kernel
theorem dL_adds_25 : decode cL_adds 25 = .ok (.iload 4, 2) := by decide +kernel
theorem dL_adds_27 : decode cL_adds 27 = .ok (.iconst 3, 1) := by decide +kernel
theorem dL_adds_28 : decode cL_adds 28 = .ok (.ishr, 1) := by decide +kernel
theorem dL_adds_29 : decode cL_adds 29 = .ok (.iconst 3, 1) := by decide +kernel
theorem dL_adds_30 : decode cL_adds 30 = .ok (.invokestatic 85, 3) := by decide +kernel
theorem dL_adds_33 : decode cL_adds 33 = .ok (.ifCond .ne 9, 3) := by decide +kernel
theorem dL_adds_36 : decode cL_adds 36 = .ok (.sipush 501, 3) := by decide +kernel
theorem dL_adds_39 : decode cL_adds 39 = .ok (.goto 5, 3) := by decide +kernel
theorem dL_adds_42 : decode cL_adds 42 = .ok (.bipush 60, 2) := by decide +kernel
theorem dL_adds_44 : decode cL_adds 44 = .ok (.invokestatic 85, 3) := by decide +kernel
theorem dL_adds_47 : decode cL_adds 47 = .ok (.iadd, 1) := by decide +kernel
theorem dL_adds_48 : decode cL_adds 48 = .ok (.istore 8, 2) := by decide +kernel
theorem dL_adds_50 : decode cL_adds 50 = .ok (.iload 7, 2) := by decide +kernel
theorem dL_adds_52 : decode cL_adds 52 = .ok (.bipush 60, 2) := by decide +kernel
theorem dL_adds_54 : decode cL_adds 54 = .ok (.if_icmp .gt 11, 3) := by decide +kernel
