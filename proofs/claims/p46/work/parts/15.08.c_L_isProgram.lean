theorem dL_isProgram_0 : decode cL_isProgram 0 = .ok (.new 1, 3) := by decide +kernel
theorem dL_isProgram_3 : decode cL_isProgram 3 = .ok (.dup, 1) := by decide +kernel
theorem dL_isProgram_4 : decode cL_isProgram 4 = .ok (.invokespecial 273, 3) := by decide +kernel
theorem dL_isProgram_7 : decode cL_isProgram 7 = .ok (.astore_n 1, 1) := by decide +kernel
theorem dL_isProgram_8 : decode cL_isProgram 8 = .ok (.new 1, 3) := by decide +kernel
theorem dL_isProgram_11 : decode cL_isProgram 11 = .ok (.dup, 1) := by decide +kernel
theorem dL_isProgram_12 : decode cL_isProgram 12 = .ok (.invokespecial 273, 3) := by decide +kernel
theorem dL_isProgram_15 : decode cL_isProgram 15 = .ok (.astore_n 2, 1) := by decide +kernel
theorem dL_isProgram_16 : decode cL_isProgram 16 = .ok (.aload_n 1, 1) := by decide +kernel
theorem dL_isProgram_17 : decode cL_isProgram 17 = .ok (.aload_n 2, 1) := by decide +kernel
theorem dL_isProgram_18 : decode cL_isProgram 18 = .ok (.aload_n 0, 1) := by decide +kernel
theorem dL_isProgram_19 : decode cL_isProgram 19 = .ok (.invokestatic 274, 3) := by decide +kernel
theorem dL_isProgram_22 : decode cL_isProgram 22 = .ok (.aload_n 1, 1) := by decide +kernel
theorem dL_isProgram_23 : decode cL_isProgram 23 = .ok (.aload_n 0, 1) := by decide +kernel
theorem dL_isProgram_24 : decode cL_isProgram 24 = .ok (.iconst 2, 1) := by decide +kernel
theorem dL_isProgram_25 : decode cL_isProgram 25 = .ok (.invokestatic 103, 3) := by decide +kernel
theorem dL_isProgram_28 : decode cL_isProgram 28 = .ok (.aload_n 0, 1) := by decide +kernel
theorem dL_isProgram_29 : decode cL_isProgram 29 = .ok (.iconst 3, 1) := by decide +kernel
theorem dL_isProgram_30 : decode cL_isProgram 30 = .ok (.invokestatic 103, 3) := by decide +kernel
theorem dL_isProgram_33 : decode cL_isProgram 33 = .ok (.iconst 1, 1) := by decide +kernel
theorem dL_isProgram_34 : decode cL_isProgram 34 = .ok (.aload_n 0, 1) := by decide +kernel
theorem dL_isProgram_35 : decode cL_isProgram 35 = .ok (.bipush 6, 2) := by decide +kernel
theorem dL_isProgram_37 : decode cL_isProgram 37 = .ok (.invokestatic 103, 3) := by decide +kernel
theorem dL_isProgram_40 : decode cL_isProgram 40 = .ok (.iadd, 1) := by decide +kernel
theorem dL_isProgram_41 : decode cL_isProgram 41 = .ok (.invokevirtual 34, 3) := by decide +kernel
theorem dL_isProgram_44 : decode cL_isProgram 44 = .ok (.aload_n 1, 1) := by decide +kernel
theorem dL_isProgram_45 : decode cL_isProgram 45 = .ok (.aload_n 0, 1) := by decide +kernel
theorem dL_isProgram_46 : decode cL_isProgram 46 = .ok (.iconst 3, 1) := by decide +kernel
theorem dL_isProgram_47 : decode cL_isProgram 47 = .ok (.invokestatic 103, 3) := by decide +kernel
theorem dL_isProgram_50 : decode cL_isProgram 50 = .ok (.iconst 2, 1) := by decide +kernel
theorem dL_isProgram_51 : decode cL_isProgram 51 = .ok (.aload_n 0, 1) := by decide +kernel
theorem dL_isProgram_52 : decode cL_isProgram 52 = .ok (.iconst 5, 1) := by decide +kernel
theorem dL_isProgram_53 : decode cL_isProgram 53 = .ok (.invokestatic 103, 3) := by decide +kernel
theorem dL_isProgram_56 : decode cL_isProgram 56 = .ok (.iadd, 1) := by decide +kernel
theorem dL_isProgram_57 : decode cL_isProgram 57 = .ok (.invokevirtual 37, 3) := by decide +kernel
theorem dL_isProgram_60 : decode cL_isProgram 60 = .ok (.iadd, 1) := by decide +kernel
theorem dL_isProgram_61 : decode cL_isProgram 61 = .ok (.istore_n 3, 1) := by decide +kernel
theorem dL_isProgram_62 : decode cL_isProgram 62 = .ok (.aload_n 2, 1) := by decide +kernel
theorem dL_isProgram_63 : decode cL_isProgram 63 = .ok (.aload_n 1, 1) := by decide +kernel
theorem dL_isProgram_64 : decode cL_isProgram 64 = .ok (.iconst 0, 1) := by decide +kernel
theorem dL_isProgram_65 : decode cL_isProgram 65 = .ok (.invokevirtual 174, 3) := by decide +kernel
theorem dL_isProgram_68 : decode cL_isProgram 68 = .ok (.aload_n 1, 1) := by decide +kernel
theorem dL_isProgram_69 : decode cL_isProgram 69 = .ok (.iconst 1, 1) := by decide +kernel
theorem dL_isProgram_70 : decode cL_isProgram 70 = .ok (.invokevirtual 174, 3) := by decide +kernel
theorem dL_isProgram_73 : decode cL_isProgram 73 = .ok (.aload_n 1, 1) := by decide +kernel
theorem dL_isProgram_74 : decode cL_isProgram 74 = .ok (.iconst 2, 1) := by decide +kernel
theorem dL_isProgram_75 : decode cL_isProgram 75 = .ok (.invokevirtual 174, 3) := by decide +kernel
theorem dL_isProgram_78 : decode cL_isProgram 78 = .ok (.invokevirtual 34, 3) := by decide +kernel
theorem dL_isProgram_81 : decode cL_isProgram 81 = .ok (.aload_n 2, 1) := by decide +kernel
theorem dL_isProgram_82 : decode cL_isProgram 82 = .ok (.aload_n 1, 1) := by decide +kernel
theorem dL_isProgram_83 : decode cL_isProgram 83 = .ok (.iconst 3, 1) := by decide +kernel
theorem dL_isProgram_84 : decode cL_isProgram 84 = .ok (.invokevirtual 174, 3) := by decide +kernel
theorem dL_isProgram_87 : decode cL_isProgram 87 = .ok (.aload_n 1, 1) := by decide +kernel
theorem dL_isProgram_88 : decode cL_isProgram 88 = .ok (.iconst 4, 1) := by decide +kernel
theorem dL_isProgram_89 : decode cL_isProgram 89 = .ok (.invokevirtual 174, 3) := by decide +kernel
theorem dL_isProgram_92 : decode cL_isProgram 92 = .ok (.invokevirtual 37, 3) := by decide +kernel
theorem dL_isProgram_95 : decode cL_isProgram 95 = .ok (.iadd, 1) := by decide +kernel
theorem dL_isProgram_96 : decode cL_isProgram 96 = .ok (.istore_n 3, 1) := by decide +kernel
theorem dL_isProgram_97 : decode cL_isProgram 97 = .ok (.aload_n 0, 1) := by decide +kernel
theorem dL_isProgram_98 : decode cL_isProgram 98 = .ok (.bipush 6, 2) := by decide +kernel
theorem dL_isProgram_100 : decode cL_isProgram 100 = .ok (.invokestatic 103, 3) := by decide +kernel
theorem dL_isProgram_103 : decode cL_isProgram 103 = .ok (.istore 4, 2) := by decide +kernel
theorem dL_isProgram_105 : decode cL_isProgram 105 = .ok (.new 212, 3) := by decide +kernel
theorem dL_isProgram_108 : decode cL_isProgram 108 = .ok (.dup, 1) := by decide +kernel
theorem dL_isProgram_109 : decode cL_isProgram 109 = .ok (.aload_n 0, 1) := by decide +kernel
theorem dL_isProgram_110 : decode cL_isProgram 110 = .ok (.iconst 3, 1) := by decide +kernel
theorem dL_isProgram_111 : decode cL_isProgram 111 = .ok (.invokestatic 103, 3) := by decide +kernel
theorem dL_isProgram_124 : decode cL_isProgram 124 = .ok (.invokespecial 278, 3) := by decide +kernel
theorem dL_isProgram_127 : decode cL_isProgram 127 = .ok (.astore 5, 2) := by decide +kernel
theorem dL_isProgram_129 : decode cL_isProgram 129 = .ok (.iload 4, 2) := by decide +kernel
theorem dL_isProgram_131 : decode cL_isProgram 131 = .ok (.anewarray 281, 3) := by decide +kernel
theorem dL_isProgram_134 : decode cL_isProgram 134 = .ok (.astore 6, 2) := by decide +kernel
theorem dL_isProgram_136 : decode cL_isProgram 136 = .ok (.iload 4, 2) := by decide +kernel
theorem dL_isProgram_138 : decode cL_isProgram 138 = .ok (.newarray .int, 2) := by decide +kernel
theorem dL_isProgram_140 : decode cL_isProgram 140 = .ok (.astore 7, 2) := by decide +kernel
theorem dL_isProgram_142 : decode cL_isProgram 142 = .ok (.iconst 0, 1) := by decide +kernel
theorem dL_isProgram_143 : decode cL_isProgram 143 = .ok (.istore 8, 2) := by decide +kernel
theorem dL_isProgram_188 : decode cL_isProgram 188 = .ok (.aload 5, 2) := by decide +kernel
theorem dL_isProgram_190 : decode cL_isProgram 190 = .ok (.invokevirtual 287, 3) := by decide +kernel
theorem dL_isProgram_193 : decode cL_isProgram 193 = .ok (.sipush 160, 3) := by decide +kernel
theorem dL_isProgram_196 : decode cL_isProgram 196 = .ok (.if_icmp .le 5, 3) := by decide +kernel
theorem dL_isProgram_201 : decode cL_isProgram 201 = .ok (.aload_n 1, 1) := by decide +kernel
theorem dL_isProgram_202 : decode cL_isProgram 202 = .ok (.aload 5, 2) := by decide +kernel
theorem dL_isProgram_204 : decode cL_isProgram 204 = .ok (.invokestatic 292, 3) := by decide +kernel
theorem dL_isProgram_207 : decode cL_isProgram 207 = .ok (.bipush 8, 2) := by decide +kernel
theorem dL_isProgram_209 : decode cL_isProgram 209 = .ok (.anewarray 281, 3) := by decide +kernel
theorem dL_isProgram_212 : decode cL_isProgram 212 = .ok (.astore 8, 2) := by decide +kernel
theorem dL_isProgram_214 : decode cL_isProgram 214 = .ok (.iconst 0, 1) := by decide +kernel
theorem dL_isProgram_215 : decode cL_isProgram 215 = .ok (.istore 9, 2) := by decide +kernel
theorem dL_isProgram_241 : decode cL_isProgram 241 = .ok (.iconst (-1), 1) := by decide +kernel
theorem dL_isProgram_242 : decode cL_isProgram 242 = .ok (.istore 9, 2) := by decide +kernel
theorem dL_isProgram_244 : decode cL_isProgram 244 = .ok (.iconst 0, 1) := by decide +kernel
theorem dL_isProgram_245 : decode cL_isProgram 245 = .ok (.istore 10, 2) := by decide +kernel
theorem dL_isProgram_247 : decode cL_isProgram 247 = .ok (.iconst 0, 1) := by decide +kernel
theorem dL_isProgram_248 : decode cL_isProgram 248 = .ok (.istore 11, 2) := by decide +kernel
theorem dL_isProgram_328 : decode cL_isProgram 328 = .ok (.aload_n 1, 1) := by decide +kernel
theorem dL_isProgram_329 : decode cL_isProgram 329 = .ok (.invokevirtual 300, 3) := by decide +kernel
theorem dL_isProgram_332 : decode cL_isProgram 332 = .ok (.iload 9, 2) := by decide +kernel
theorem dL_isProgram_334 : decode cL_isProgram 334 = .ok (.iconst (-1), 1) := by decide +kernel
theorem dL_isProgram_343 : decode cL_isProgram 343 = .ok (.if_icmp .ne 25, 3) := by decide +kernel
theorem dL_isProgram_368 : decode cL_isProgram 368 = .ok (.iconst 0, 1) := by decide +kernel
theorem dL_isProgram_369 : decode cL_isProgram 369 = .ok (.ireturn, 1) := by decide +kernel
theorem dL_isProgram_346 : decode cL_isProgram 346 = .ok (.aload_n 1, 1) := by decide +kernel
theorem dL_isProgram_347 : decode cL_isProgram 347 = .ok (.invokevirtual 303, 3) := by decide +kernel
theorem dL_isProgram_350 : decode cL_isProgram 350 = .ok (.iload 9, 2) := by decide +kernel
theorem dL_isProgram_352 : decode cL_isProgram 352 = .ok (.iconst (-1), 1) := by decide +kernel
theorem dL_isProgram_365 : decode cL_isProgram 365 = .ok (.if_icmp .eq 5, 3) := by decide +kernel
theorem dL_isProgram_370 : decode cL_isProgram 370 = .ok (.aload_n 1, 1) := by decide +kernel
theorem dL_isProgram_371 : decode cL_isProgram 371 = .ok (.bipush 16, 2) := by decide +kernel
theorem dL_isProgram_373 : decode cL_isProgram 373 = .ok (.iconst 0, 1) := by decide +kernel
theorem dL_isProgram_374 : decode cL_isProgram 374 = .ok (.iconst 0, 1) := by decide +kernel
theorem dL_isProgram_375 : decode cL_isProgram 375 = .ok (.iconst 0, 1) := by decide +kernel
theorem dL_isProgram_376 : decode cL_isProgram 376 = .ok (.invokestatic 140, 3) := by decide +kernel
theorem dL_isProgram_379 : decode cL_isProgram 379 = .ok (.istore_n 3, 1) := by decide +kernel
theorem dL_isProgram_380 : decode cL_isProgram 380 = .ok (.iload_n 3, 1) := by decide +kernel
theorem dL_isProgram_381 : decode cL_isProgram 381 = .ok (.iload 9, 2) := by decide +kernel
theorem dL_isProgram_383 : decode cL_isProgram 383 = .ok (.iconst (-1), 1) := by decide +kernel
theorem dL_isProgram_395 : decode cL_isProgram 395 = .ok (.if_icmp .eq 5, 3) := by decide +kernel
theorem dL_isProgram_400 : decode cL_isProgram 400 = .ok (.iconst 0, 1) := by decide +kernel
theorem dL_isProgram_401 : decode cL_isProgram 401 = .ok (.istore 11, 2) := by decide +kernel
theorem dL_isProgram_454 : decode cL_isProgram 454 = .ok (.iconst 0, 1) := by decide +kernel
theorem dL_isProgram_455 : decode cL_isProgram 455 = .ok (.ireturn, 1) := by decide +kernel
theorem dL_isProgram_462 : decode cL_isProgram 462 = .ok (.aload_n 1, 1) := by decide +kernel
theorem dL_isProgram_463 : decode cL_isProgram 463 = .ok (.bipush 11, 2) := by decide +kernel
theorem dL_isProgram_465 : decode cL_isProgram 465 = .ok (.iconst 0, 1) := by decide +kernel
theorem dL_isProgram_466 : decode cL_isProgram 466 = .ok (.iconst 0, 1) := by decide +kernel
theorem dL_isProgram_467 : decode cL_isProgram 467 = .ok (.iconst 0, 1) := by decide +kernel
theorem dL_isProgram_468 : decode cL_isProgram 468 = .ok (.invokestatic 140, 3) := by decide +kernel
theorem dL_isProgram_471 : decode cL_isProgram 471 = .ok (.sipush (-20004), 3) := by decide +kernel
theorem dL_isProgram_474 : decode cL_isProgram 474 = .ok (.if_icmp .ne 7, 3) := by decide +kernel
theorem dL_isProgram_481 : decode cL_isProgram 481 = .ok (.iconst 0, 1) := by decide +kernel
theorem dL_isProgram_482 : decode cL_isProgram 482 = .ok (.ireturn, 1) := by decide +kernel
theorem dL_isProgram_477 : decode cL_isProgram 477 = .ok (.iconst 1, 1) := by decide +kernel
theorem dL_isProgram_478 : decode cL_isProgram 478 = .ok (.goto 4, 3) := by decide +kernel
theorem dL_isProgram_403 : decode cL_isProgram 403 = .ok (.iload 11, 2) := by decide +kernel
theorem dL_isProgram_405 : decode cL_isProgram 405 = .ok (.bipush 8, 2) := by decide +kernel
theorem dL_isProgram_407 : decode cL_isProgram 407 = .ok (.if_icmp .ge 55, 3) := by decide +kernel
theorem dL_isProgram_410 : decode cL_isProgram 410 = .ok (.iload 11, 2) := by decide +kernel
theorem dL_isProgram_412 : decode cL_isProgram 412 = .ok (.bipush 7, 2) := by decide +kernel
theorem dL_isProgram_422 : decode cL_isProgram 422 = .ok (.aload_n 1, 1) := by decide +kernel
theorem dL_isProgram_423 : decode cL_isProgram 423 = .ok (.iload 11, 2) := by decide +kernel
theorem dL_isProgram_425 : decode cL_isProgram 425 = .ok (.invokestatic 120, 3) := by decide +kernel
theorem dL_isProgram_428 : decode cL_isProgram 428 = .ok (.iload 9, 2) := by decide +kernel
theorem dL_isProgram_430 : decode cL_isProgram 430 = .ok (.iconst (-1), 1) := by decide +kernel
theorem dL_isProgram_431 : decode cL_isProgram 431 = .ok (.if_icmp .ne 12, 3) := by decide +kernel
theorem dL_isProgram_443 : decode cL_isProgram 443 = .ok (.aload 8, 2) := by decide +kernel
theorem dL_isProgram_445 : decode cL_isProgram 445 = .ok (.iload 11, 2) := by decide +kernel
theorem dL_isProgram_447 : decode cL_isProgram 447 = .ok (.aaload, 1) := by decide +kernel
theorem dL_isProgram_448 : decode cL_isProgram 448 = .ok (.invokestatic 136, 3) := by decide +kernel
theorem dL_isProgram_451 : decode cL_isProgram 451 = .ok (.ifCond .ne 5, 3) := by decide +kernel
theorem dL_isProgram_456 : decode cL_isProgram 456 = .ok (.iinc 11 1, 3) := by decide +kernel
theorem dL_isProgram_459 : decode cL_isProgram 459 = .ok (.goto (-56), 3) := by decide +kernel
theorem dL_isProgram_434 : decode cL_isProgram 434 = .ok (.aload_n 2, 1) := by decide +kernel
theorem dL_isProgram_435 : decode cL_isProgram 435 = .ok (.iload 11, 2) := by decide +kernel
theorem dL_isProgram_437 : decode cL_isProgram 437 = .ok (.invokestatic 120, 3) := by decide +kernel
theorem dL_isProgram_440 : decode cL_isProgram 440 = .ok (.goto 8, 3) := by decide +kernel
theorem dL_isProgram_414 : decode cL_isProgram 414 = .ok (.if_icmp .lt 8, 3) := by decide +kernel
theorem dL_isProgram_417 : decode cL_isProgram 417 = .ok (.iload 10, 2) := by decide +kernel
theorem dL_isProgram_419 : decode cL_isProgram 419 = .ok (.ifCond .ne 37, 3) := by decide +kernel
theorem dL_isProgram_398 : decode cL_isProgram 398 = .ok (.iconst 0, 1) := by decide +kernel
theorem dL_isProgram_399 : decode cL_isProgram 399 = .ok (.ireturn, 1) := by decide +kernel
theorem dL_isProgram_384 : decode cL_isProgram 384 = .ok (.if_icmp .ne 8, 3) := by decide +kernel
theorem dL_isProgram_392 : decode cL_isProgram 392 = .ok (.sipush (-20004), 3) := by decide +kernel
theorem dL_isProgram_387 : decode cL_isProgram 387 = .ok (.iload 4, 2) := by decide +kernel
theorem dL_isProgram_389 : decode cL_isProgram 389 = .ok (.goto 6, 3) := by decide +kernel
theorem dL_isProgram_353 : decode cL_isProgram 353 = .ok (.if_icmp .ne 7, 3) := by decide +kernel
theorem dL_isProgram_360 : decode cL_isProgram 360 = .ok (.aload 7, 2) := by decide +kernel
theorem dL_isProgram_362 : decode cL_isProgram 362 = .ok (.iload 9, 2) := by decide +kernel
theorem dL_isProgram_364 : decode cL_isProgram 364 = .ok (.iaload, 1) := by decide +kernel
theorem dL_isProgram_356 : decode cL_isProgram 356 = .ok (.iconst (-1), 1) := by decide +kernel
theorem dL_isProgram_357 : decode cL_isProgram 357 = .ok (.goto 8, 3) := by decide +kernel
theorem dL_isProgram_335 : decode cL_isProgram 335 = .ok (.if_icmp .ne 7, 3) := by decide +kernel
theorem dL_isProgram_342 : decode cL_isProgram 342 = .ok (.iconst 3, 1) := by decide +kernel
theorem dL_isProgram_338 : decode cL_isProgram 338 = .ok (.iconst 0, 1) := by decide +kernel
theorem dL_isProgram_339 : decode cL_isProgram 339 = .ok (.goto 4, 3) := by decide +kernel
theorem dL_isProgram_250 : decode cL_isProgram 250 = .ok (.iload 11, 2) := by decide +kernel
theorem dL_isProgram_252 : decode cL_isProgram 252 = .ok (.iload 4, 2) := by decide +kernel
theorem dL_isProgram_254 : decode cL_isProgram 254 = .ok (.if_icmp .ge 74, 3) := by decide +kernel
theorem dL_isProgram_257 : decode cL_isProgram 257 = .ok (.iload 9, 2) := by decide +kernel
theorem dL_isProgram_259 : decode cL_isProgram 259 = .ok (.iconst (-1), 1) := by decide +kernel
theorem dL_isProgram_260 : decode cL_isProgram 260 = .ok (.if_icmp .ne 68, 3) := by decide +kernel
theorem dL_isProgram_263 : decode cL_isProgram 263 = .ok (.iload 10, 2) := by decide +kernel
theorem dL_isProgram_265 : decode cL_isProgram 265 = .ok (.aload 6, 2) := by decide +kernel
theorem dL_isProgram_267 : decode cL_isProgram 267 = .ok (.iload 11, 2) := by decide +kernel
theorem dL_isProgram_269 : decode cL_isProgram 269 = .ok (.aaload, 1) := by decide +kernel
theorem dL_isProgram_270 : decode cL_isProgram 270 = .ok (.iconst 0, 1) := by decide +kernel
theorem dL_isProgram_271 : decode cL_isProgram 271 = .ok (.iaload, 1) := by decide +kernel
theorem dL_isProgram_303 : decode cL_isProgram 303 = .ok (.ior, 1) := by decide +kernel
theorem dL_isProgram_304 : decode cL_isProgram 304 = .ok (.istore 10, 2) := by decide +kernel
theorem dL_isProgram_306 : decode cL_isProgram 306 = .ok (.aload_n 2, 1) := by decide +kernel
theorem dL_isProgram_307 : decode cL_isProgram 307 = .ok (.aload 6, 2) := by decide +kernel
theorem dL_isProgram_309 : decode cL_isProgram 309 = .ok (.iload 11, 2) := by decide +kernel
theorem dL_isProgram_311 : decode cL_isProgram 311 = .ok (.aaload, 1) := by decide +kernel
theorem dL_isProgram_312 : decode cL_isProgram 312 = .ok (.invokestatic 296, 3) := by decide +kernel
theorem dL_isProgram_315 : decode cL_isProgram 315 = .ok (.ifCond .ne 7, 3) := by decide +kernel
theorem dL_isProgram_322 : decode cL_isProgram 322 = .ok (.iinc 11 1, 3) := by decide +kernel
theorem dL_isProgram_325 : decode cL_isProgram 325 = .ok (.goto (-75), 3) := by decide +kernel
theorem dL_isProgram_318 : decode cL_isProgram 318 = .ok (.iload 11, 2) := by decide +kernel
theorem dL_isProgram_320 : decode cL_isProgram 320 = .ok (.istore 9, 2) := by decide +kernel
theorem dL_isProgram_302 : decode cL_isProgram 302 = .ok (.iconst 0, 1) := by decide +kernel
theorem dL_isProgram_272 : decode cL_isProgram 272 = .ok (.ifCond .le 30, 3) := by decide +kernel
theorem dL_isProgram_275 : decode cL_isProgram 275 = .ok (.aload 6, 2) := by decide +kernel
theorem dL_isProgram_277 : decode cL_isProgram 277 = .ok (.iload 11, 2) := by decide +kernel
theorem dL_isProgram_279 : decode cL_isProgram 279 = .ok (.aaload, 1) := by decide +kernel
theorem dL_isProgram_280 : decode cL_isProgram 280 = .ok (.iconst 0, 1) := by decide +kernel
theorem dL_isProgram_281 : decode cL_isProgram 281 = .ok (.iaload, 1) := by decide +kernel
theorem dL_isProgram_282 : decode cL_isProgram 282 = .ok (.iconst 4, 1) := by decide +kernel
theorem dL_isProgram_283 : decode cL_isProgram 283 = .ok (.if_icmp .ge 19, 3) := by decide +kernel
theorem dL_isProgram_286 : decode cL_isProgram 286 = .ok (.aload 6, 2) := by decide +kernel
theorem dL_isProgram_288 : decode cL_isProgram 288 = .ok (.iload 11, 2) := by decide +kernel
theorem dL_isProgram_290 : decode cL_isProgram 290 = .ok (.aaload, 1) := by decide +kernel
theorem dL_isProgram_291 : decode cL_isProgram 291 = .ok (.iconst 3, 1) := by decide +kernel
theorem dL_isProgram_292 : decode cL_isProgram 292 = .ok (.iaload, 1) := by decide +kernel
theorem dL_isProgram_293 : decode cL_isProgram 293 = .ok (.bipush 7, 2) := by decide +kernel
theorem dL_isProgram_295 : decode cL_isProgram 295 = .ok (.if_icmp .eq 7, 3) := by decide +kernel
theorem dL_isProgram_298 : decode cL_isProgram 298 = .ok (.iconst 1, 1) := by decide +kernel
theorem dL_isProgram_299 : decode cL_isProgram 299 = .ok (.goto 4, 3) := by decide +kernel
theorem dL_isProgram_217 : decode cL_isProgram 217 = .ok (.iload 9, 2) := by decide +kernel
theorem dL_isProgram_219 : decode cL_isProgram 219 = .ok (.bipush 8, 2) := by decide +kernel
theorem dL_isProgram_221 : decode cL_isProgram 221 = .ok (.if_icmp .ge 20, 3) := by decide +kernel
theorem dL_isProgram_224 : decode cL_isProgram 224 = .ok (.aload 8, 2) := by decide +kernel
theorem dL_isProgram_226 : decode cL_isProgram 226 = .ok (.iload 9, 2) := by decide +kernel
theorem dL_isProgram_228 : decode cL_isProgram 228 = .ok (.aload_n 1, 1) := by decide +kernel
theorem dL_isProgram_229 : decode cL_isProgram 229 = .ok (.iload 9, 2) := by decide +kernel
theorem dL_isProgram_231 : decode cL_isProgram 231 = .ok (.invokestatic 120, 3) := by decide +kernel
theorem dL_isProgram_234 : decode cL_isProgram 234 = .ok (.aastore, 1) := by decide +kernel
theorem dL_isProgram_235 : decode cL_isProgram 235 = .ok (.iinc 9 1, 3) := by decide +kernel
theorem dL_isProgram_238 : decode cL_isProgram 238 = .ok (.goto (-21), 3) := by decide +kernel
theorem dL_isProgram_199 : decode cL_isProgram 199 = .ok (.iconst 1, 1) := by decide +kernel
theorem dL_isProgram_200 : decode cL_isProgram 200 = .ok (.ireturn, 1) := by decide +kernel
theorem dL_isProgram_145 : decode cL_isProgram 145 = .ok (.iload 8, 2) := by decide +kernel
theorem dL_isProgram_147 : decode cL_isProgram 147 = .ok (.iload 4, 2) := by decide +kernel
theorem dL_isProgram_149 : decode cL_isProgram 149 = .ok (.if_icmp .ge 39, 3) := by decide +kernel
theorem dL_isProgram_152 : decode cL_isProgram 152 = .ok (.aload 6, 2) := by decide +kernel
theorem dL_isProgram_154 : decode cL_isProgram 154 = .ok (.iload 8, 2) := by decide +kernel
theorem dL_isProgram_156 : decode cL_isProgram 156 = .ok (.aload_n 0, 1) := by decide +kernel
theorem dL_isProgram_157 : decode cL_isProgram 157 = .ok (.invokestatic 283, 3) := by decide +kernel
theorem dL_isProgram_160 : decode cL_isProgram 160 = .ok (.aastore, 1) := by decide +kernel
theorem dL_isProgram_161 : decode cL_isProgram 161 = .ok (.aload 7, 2) := by decide +kernel
theorem dL_isProgram_163 : decode cL_isProgram 163 = .ok (.iload 8, 2) := by decide +kernel
theorem dL_isProgram_165 : decode cL_isProgram 165 = .ok (.aload 5, 2) := by decide +kernel
theorem dL_isProgram_167 : decode cL_isProgram 167 = .ok (.invokevirtual 287, 3) := by decide +kernel
theorem dL_isProgram_170 : decode cL_isProgram 170 = .ok (.iastore, 1) := by decide +kernel
theorem dL_isProgram_171 : decode cL_isProgram 171 = .ok (.aload_n 0, 1) := by decide +kernel
theorem dL_isProgram_172 : decode cL_isProgram 172 = .ok (.aload 5, 2) := by decide +kernel
theorem dL_isProgram_174 : decode cL_isProgram 174 = .ok (.aload 6, 2) := by decide +kernel
theorem dL_isProgram_176 : decode cL_isProgram 176 = .ok (.iload 8, 2) := by decide +kernel
theorem dL_isProgram_178 : decode cL_isProgram 178 = .ok (.aaload, 1) := by decide +kernel
theorem dL_isProgram_179 : decode cL_isProgram 179 = .ok (.invokestatic 288, 3) := by decide +kernel
theorem dL_isProgram_182 : decode cL_isProgram 182 = .ok (.iinc 8 1, 3) := by decide +kernel
theorem dL_isProgram_185 : decode cL_isProgram 185 = .ok (.goto (-40), 3) := by decide +kernel
theorem dL_isProgram_114 : decode cL_isProgram 114 = .ok (.ifCond .ne 8, 3) := by decide +kernel
theorem dL_isProgram_122 : decode cL_isProgram 122 = .ok (.ldc 226, 2) := by decide +kernel
theorem dL_isProgram_117 : decode cL_isProgram 117 = .ok (.ldc 255, 2) := by decide +kernel
theorem dL_isProgram_119 : decode cL_isProgram 119 = .ok (.goto 5, 3) := by decide +kernel

set_option maxHeartbeats 8000000 in
set_option maxRecDepth 100000 in
theorem c_L_isProgram (l : Launch) (hlf : l.stackTraces = false) (dC : Nat → ClassId) (dI : Nat → Nat → Nat) (g : Nat → ClassId) (a_r_ n_r_ : Nat) (r_ : Nat → Int32) (Q : Bool → (Nat → Int32) → Prop) (hw : wp_L_isProgram n_r_ r_ Q) (sz : Nat) : Met l yL_isProgram wqL_isProgram ({ frames := 17, cells := 7020, slots := 298337, locals := 274 }) (va_Pc [.ref a_r_] (PG (dC, dI) g [(a_r_, .inl (g 0, n_r_, .inl r_))] sz)) (va_Qi (fun (r : Int32) (u : (Nat → Int32) × Unit) => ∃ b : Bool, r = b2i b ∧ (Q b u.1)) (fun (u : (Nat → Int32) × Unit) t9 => va_P (dC, dI) vwCl [(a_r_, .inl (g 0, n_r_, .inl u.1))] t9.heap ∧ va_D (va_A [(a_r_, .inl (g 0, n_r_, .inl r_))] sz) [(a_r_, .inl (g 0, n_r_, .inl u.1))]) (va_A [(a_r_, .inl (g 0, n_r_, .inl r_))] sz)) 7020 298337 (va_A [(a_r_, .inl (g 0, n_r_, .inl r_))] sz) := by
  refine Met.ofW (cc := cL_isProgram) (maxL := 12) (ret := (some .boolean)) (by decide) rfl ?_
  intro p e s m args below meth c s₁ B hml hv
  obtain ⟨rfl, hsz, hP, hK, hD0, hG⟩ := hv
  have hx := B.exec
  have hb := B.bytes
  have hr := B.returns
  have hts := atoms_spec (ws := wqL_isProgram) B.pre
  have hown : s.vm.findClass RL = some m.cls := findClass_of_methodNamed B.named
  have hlocks := B.notSynchronized
  subst hsz
  have hD := hD0.self (sz := s.heap.size)
  generalize hAe : va_A [(a_r_, .inl (g 0, n_r_, .inl r_))] s.heap.size = A at hD hG ⊢
  have hA : ∀ q : Nat, s.heap.size ≤ q → A q := fun q h => by rw [← hAe]; exact Or.inr h
  have hS : va_S A s.heap s.heap [] := va_S.rf
  have hrc : (headSpec wqL_isProgram ({ frames := 17, cells := 7020, slots := 298337, locals := 274 })).room.cells = 7020 := rfl
  have hrs : (headSpec wqL_isProgram ({ frames := 17, cells := 7020, slots := 298337, locals := 274 })).room.slots = 298337 := rfl
  have hl := lv_entry ([.ref a_r_]) (n := 12) (Nat.le_of_ble_eq_true rfl)
  rw [lg_entry_eq]
  generalize (lg_sl ([.ref a_r_]) ++ List.replicate (12 - (lg_sl ([.ref a_r_])).length) Slot.unset).toArray = ls at hl ⊢
  have hl : lv_has ls 12 [(0, .ref a_r_)] := hl
  unfold wp_L_isProgram at hw
  have hcl1 := hts (Cond.classLink RL 1 RX11) (aw_l aw_1_32)
  have hinX11 := hts (Cond.instantiable RX11 13) (aw_l aw_1_33)
  have hiniX11 := hts (Cond.initialized RX11) (aw_l aw_1_1)
  have hiX11 : ∀ w ∈ u_ws RX11 TX11 13, w ∈ wqL_isProgram := fun w h => aw_l (aw_wsX110 w h)
  have himX11_init := hts (Cond.instanceMethod yX11_init) (aw_l aw_1_35)
  have hml273 := hts (Cond.methodLink RL 273 yX11_init) (aw_l aw_1_34)
  have hcl212 := hts (Cond.classLink RL 212 RJ4) (aw_l aw_6_110)
  have hinJ4 := hts (Cond.instantiable RJ4 4) (aw_l aw_6_111)
  have hiniJ4 := hts (Cond.initialized RJ4) (aw_l aw_1_26)
  have hiJ4 : ∀ w ∈ u_ws RJ4 TJ4 4, w ∈ wqL_isProgram := fun w h => aw_l (aw_wsJ40 w h)
  have himJ4_init_a7421 := hts (Cond.instanceMethod yJ4_init_a7421) (aw_l aw_6_115)
  have hml278 := hts (Cond.methodLink RL 278 yJ4_init_a7421) (aw_l aw_6_114)
  have hcl281 := hts (Cond.classLink RL 281 "[I") (aw_l aw_7_5)
  have hnaint := hts (Cond.arrayClass .int) (aw_l aw_1_57)
  refine va_new (ci := 13) (fs := [.null, .null, .null, .null, .null, .null, .null, .null, .null, .null, .null, .null, .int 0]) (C := RX11) (T := TX11) (N := 13) hx hb hts hiX11 tyX11 tyX11_ok hown hcl1 hinX11 hiniX11 hK hP hD hS hA rfl (fun j hj => by rcases (show j = 0 ∨ j = 1 ∨ j = 2 ∨ j = 3 ∨ j = 4 ∨ j = 5 ∨ j = 6 ∨ j = 7 ∨ j = 8 ∨ j = 9 ∨ j = 10 ∨ j = 11 ∨ j = 12 by omega) with rfl | rfl | rfl | rfl | rfl | rfl | rfl | rfl | rfl | rfl | rfl | rfl | rfl <;> rfl) (by rw [hrc]; omega) (by rw [hrs]; omega) dL_isProgram_0 (fun t_o0 H_2 hP hD hS => ?_)
  obtain ⟨hP, hD⟩ := seg_join [[(a_r_, .inl (g 0, n_r_, .inl r_))]] [[(t_o0, .inr (13, [.null, .null, .null, .null, .null, .null, .null, .null, .null, .null, .null, .null, .int 0]))]] [[(a_r_, .inl (g 0, n_r_, .inl r_))], [(t_o0, .inr (13, [.null, .null, .null, .null, .null, .null, .null, .null, .null, .null, .null, .null, .int 0]))]] 2 [0, 1] rfl rfl (by decide) hP hD
  have hP : va_P (dC, dI) vwCl [(a_r_, .inl (g 0, n_r_, .inl r_)), (t_o0, .inr (13, [.null, .null, .null, .null, .null, .null, .null, .null, .null, .null, .null, .null, .int 0]))] H_2 := hP
  have hD : va_D A [(a_r_, .inl (g 0, n_r_, .inl r_)), (t_o0, .inr (13, [.null, .null, .null, .null, .null, .null, .null, .null, .null, .null, .null, .null, .int 0]))] := hD
  refine W.widen (k := 1) (n := 13) (by omega) (by omega) ?_
  refine lv_dup hx hb dL_isProgram_3 rfl ?_
  obtain ⟨hPs, hDs⟩ := seg_call (segs := [[(a_r_, .inl (g 0, n_r_, .inl r_))], [(t_o0, .inr (13, [.null, .null, .null, .null, .null, .null, .null, .null, .null, .null, .null, .null, .int 0]))]]) [[(a_r_, .inl (g 0, n_r_, .inl r_))]] [[(t_o0, .inr (13, [.null, .null, .null, .null, .null, .null, .null, .null, .null, .null, .null, .null, .int 0]))]] 2 [0, 1] rfl rfl (by decide) hP hD
  have hPc : va_P (dC, dI) vwCl [(t_o0, .inr (13, [.null, .null, .null, .null, .null, .null, .null, .null, .null, .null, .null, .null, .int 0]))] H_2 := P_r hPs
  have hDc : va_D A [(t_o0, .inr (13, [.null, .null, .null, .null, .null, .null, .null, .null, .null, .null, .null, .null, .int 0]))] := D_r hDs
  have hFc : ∀ q, va_A [(t_o0, .inr (13, [.null, .null, .null, .null, .null, .null, .null, .null, .null, .null, .null, .null, .int 0]))] H_2.size q → A q := A_all hDc hA hS.1
  refine va_callv (va_runI (As := []) (rest := [.ref t_o0]) ⟨hx, hb, hml, hown, hts⟩ (c_X11_init l dC dI g (a_this_ := t_o0) (hw := hw) (sz := H_2.size)) (cwI 0 hts (gq0 aw_1_36) rfl rfl rfl hiniX11 hml273 himX11_init rfl (by decide +kernel) ⟨Nat.le_of_ble_eq_true rfl, Nat.le_of_ble_eq_true rfl⟩) ⟨PG_blind, PG_call hK hG hS hPc hDc hFc⟩ rfl rfl hl.1 rfl (lv_room (Nat.le_of_ble_eq_true rfl)) dL_isProgram_4 ⟨by rw [hrc]; omega, by rw [hrs]; omega⟩) hS (fun q _ h => hFc q h) hFc (fun u_4 t_4 H_4 L_4 ht_4 hvm_4 hw_4 hB_4 hz_4 hk_4 hS => ?_)
  obtain ⟨ad_5, tp_o0, hd_o0, tf_o0, cf_o0, u_4⟩ := u_4
  obtain ⟨hw, had_5, htf_o0, hcf_o0⟩ := hw_4
  rw [ht_4] at hB_4
  obtain ⟨hP1, hD1⟩ := hB_4
  obtain ⟨hP, hD⟩ := join_r hPs hDs hk_4 hFc hP1 hD1
  obtain ⟨hP, hD⟩ := seg_join [[(a_r_, .inl (g 0, n_r_, .inl r_))]] [offS ad_5 tp_o0 hd_o0 tf_o0 cf_o0 g of_0] [[(a_r_, .inl (g 0, n_r_, .inl r_))], offS ad_5 tp_o0 hd_o0 tf_o0 cf_o0 g of_0] 2 [0, 1] rfl rfl (by decide) hP hD
  have hP : va_P (dC, dI) vwCl ([(a_r_, .inl (g 0, n_r_, .inl r_))] ++ (offS ad_5 tp_o0 hd_o0 tf_o0 cf_o0 g of_0)) H_4 := hP
  have hD : va_D A ([(a_r_, .inl (g 0, n_r_, .inl r_))] ++ (offS ad_5 tp_o0 hd_o0 tf_o0 cf_o0 g of_0)) := hD
  refine W.widen (k := 140) (n := 10696) (by omega) (by omega) ?_
  refine lv_astore_n (lv' := [(1, .ref t_o0), (0, .ref a_r_)]) hx hb dL_isProgram_7 rfl hl (by decide) rfl (fun ls hl => ?_)
  refine va_new (ci := 13) (fs := [.null, .null, .null, .null, .null, .null, .null, .null, .null, .null, .null, .null, .int 0]) (C := RX11) (T := TX11) (N := 13) hx hb hts hiX11 tyX11 tyX11_ok hown hcl1 hinX11 hiniX11 hK hP hD hS hA rfl (fun j hj => by rcases (show j = 0 ∨ j = 1 ∨ j = 2 ∨ j = 3 ∨ j = 4 ∨ j = 5 ∨ j = 6 ∨ j = 7 ∨ j = 8 ∨ j = 9 ∨ j = 10 ∨ j = 11 ∨ j = 12 by omega) with rfl | rfl | rfl | rfl | rfl | rfl | rfl | rfl | rfl | rfl | rfl | rfl | rfl <;> rfl) (by rw [hrc]; omega) (by rw [hrs]; omega) dL_isProgram_8 (fun t_o8 H_7 hP hD hS => ?_)
  obtain ⟨hP, hD⟩ := seg_join [[(a_r_, .inl (g 0, n_r_, .inl r_))], offS ad_5 tp_o0 hd_o0 tf_o0 cf_o0 g of_0] [[(t_o8, .inr (13, [.null, .null, .null, .null, .null, .null, .null, .null, .null, .null, .null, .null, .int 0]))]] [[(a_r_, .inl (g 0, n_r_, .inl r_))], [(t_o8, .inr (13, [.null, .null, .null, .null, .null, .null, .null, .null, .null, .null, .null, .null, .int 0]))], offS ad_5 tp_o0 hd_o0 tf_o0 cf_o0 g of_0] 3 [0, 2, 1] rfl rfl (by decide) hP hD
  have hP : va_P (dC, dI) vwCl ([(a_r_, .inl (g 0, n_r_, .inl r_)), (t_o8, .inr (13, [.null, .null, .null, .null, .null, .null, .null, .null, .null, .null, .null, .null, .int 0]))] ++ (offS ad_5 tp_o0 hd_o0 tf_o0 cf_o0 g of_0)) H_7 := hP
  have hD : va_D A ([(a_r_, .inl (g 0, n_r_, .inl r_)), (t_o8, .inr (13, [.null, .null, .null, .null, .null, .null, .null, .null, .null, .null, .null, .null, .int 0]))] ++ (offS ad_5 tp_o0 hd_o0 tf_o0 cf_o0 g of_0)) := hD
  refine W.widen (k := 141) (n := 10709) (by omega) (by omega) ?_
  refine lv_dup hx hb dL_isProgram_11 rfl ?_
  obtain ⟨hPs, hDs⟩ := seg_call (segs := [[(a_r_, .inl (g 0, n_r_, .inl r_))], [(t_o8, .inr (13, [.null, .null, .null, .null, .null, .null, .null, .null, .null, .null, .null, .null, .int 0]))], offS ad_5 tp_o0 hd_o0 tf_o0 cf_o0 g of_0]) [[(a_r_, .inl (g 0, n_r_, .inl r_))], offS ad_5 tp_o0 hd_o0 tf_o0 cf_o0 g of_0] [[(t_o8, .inr (13, [.null, .null, .null, .null, .null, .null, .null, .null, .null, .null, .null, .null, .int 0]))]] 3 [0, 2, 1] rfl rfl (by decide) hP hD
  have hPc : va_P (dC, dI) vwCl [(t_o8, .inr (13, [.null, .null, .null, .null, .null, .null, .null, .null, .null, .null, .null, .null, .int 0]))] H_7 := P_r hPs
  have hDc : va_D A [(t_o8, .inr (13, [.null, .null, .null, .null, .null, .null, .null, .null, .null, .null, .null, .null, .int 0]))] := D_r hDs
  have hFc : ∀ q, va_A [(t_o8, .inr (13, [.null, .null, .null, .null, .null, .null, .null, .null, .null, .null, .null, .null, .int 0]))] H_7.size q → A q := A_all hDc hA hS.1
  refine va_callv (va_runI (As := []) (rest := [.ref t_o8]) ⟨hx, hb, hml, hown, hts⟩ (c_X11_init l dC dI g (a_this_ := t_o8) (hw := hw) (sz := H_7.size)) (cwI 0 hts (gq0 aw_1_36) rfl rfl rfl hiniX11 hml273 himX11_init rfl (by decide +kernel) ⟨Nat.le_of_ble_eq_true rfl, Nat.le_of_ble_eq_true rfl⟩) ⟨PG_blind, PG_call hK hG hS hPc hDc hFc⟩ rfl rfl hl.1 rfl (lv_room (Nat.le_of_ble_eq_true rfl)) dL_isProgram_12 ⟨by rw [hrc]; omega, by rw [hrs]; omega⟩) hS (fun q _ h => hFc q h) hFc (fun u_9 t_9 H_9 L_9 ht_9 hvm_9 hw_9 hB_9 hz_9 hk_9 hS => ?_)
  obtain ⟨ad_10, tp_o8, hd_o8, tf_o8, cf_o8, u_9⟩ := u_9
  obtain ⟨hw, had_10, htf_o8, hcf_o8⟩ := hw_9
  rw [ht_9] at hB_9
  obtain ⟨hP1, hD1⟩ := hB_9
  obtain ⟨hP, hD⟩ := join_r hPs hDs hk_9 hFc hP1 hD1
  obtain ⟨hP, hD⟩ := seg_join [[(a_r_, .inl (g 0, n_r_, .inl r_))], offS ad_5 tp_o0 hd_o0 tf_o0 cf_o0 g of_0] [offS ad_10 tp_o8 hd_o8 tf_o8 cf_o8 g of_0] [[(a_r_, .inl (g 0, n_r_, .inl r_))], offS ad_5 tp_o0 hd_o0 tf_o0 cf_o0 g of_0, offS ad_10 tp_o8 hd_o8 tf_o8 cf_o8 g of_0] 3 [0, 1, 2] rfl rfl (by decide) hP hD
  have hP : va_P (dC, dI) vwCl ([(a_r_, .inl (g 0, n_r_, .inl r_))] ++ (offS ad_5 tp_o0 hd_o0 tf_o0 cf_o0 g of_0 ++ (offS ad_10 tp_o8 hd_o8 tf_o8 cf_o8 g of_0))) H_9 := hP
  have hD : va_D A ([(a_r_, .inl (g 0, n_r_, .inl r_))] ++ (offS ad_5 tp_o0 hd_o0 tf_o0 cf_o0 g of_0 ++ (offS ad_10 tp_o8 hd_o8 tf_o8 cf_o8 g of_0))) := hD
  refine W.widen (k := 280) (n := 21392) (by omega) (by omega) ?_
  refine lv_astore_n (lv' := [(2, .ref t_o8), (1, .ref t_o0), (0, .ref a_r_)]) hx hb dL_isProgram_15 rfl hl (by decide) rfl (fun ls hl => ?_)
  refine lv_aload_n hx hb dL_isProgram_16 rfl (lv_at hl 1 rfl) ?_
  refine lv_aload_n hx hb dL_isProgram_17 rfl (lv_at hl 0 rfl) ?_
  refine lv_aload_n hx hb dL_isProgram_18 rfl (lv_at hl 2 rfl) ?_
  obtain ⟨hPs, hDs⟩ := seg_call (segs := [[(a_r_, .inl (g 0, n_r_, .inl r_))], offS ad_5 tp_o0 hd_o0 tf_o0 cf_o0 g of_0, offS ad_10 tp_o8 hd_o8 tf_o8 cf_o8 g of_0]) [] [[(a_r_, .inl (g 0, n_r_, .inl r_))], offS ad_5 tp_o0 hd_o0 tf_o0 cf_o0 g of_0, offS ad_10 tp_o8 hd_o8 tf_o8 cf_o8 g of_0] 3 [0, 1, 2] rfl rfl (by decide) hP hD
  have hPc : va_P (dC, dI) vwCl ([(a_r_, .inl (g 0, n_r_, .inl r_))] ++ (offS ad_5 tp_o0 hd_o0 tf_o0 cf_o0 g of_0 ++ (offS ad_10 tp_o8 hd_o8 tf_o8 cf_o8 g of_0))) H_9 := P_r hPs
  have hDc : va_D A ([(a_r_, .inl (g 0, n_r_, .inl r_))] ++ (offS ad_5 tp_o0 hd_o0 tf_o0 cf_o0 g of_0 ++ (offS ad_10 tp_o8 hd_o8 tf_o8 cf_o8 g of_0))) := D_r hDs
  have hFc : ∀ q, va_A ([(a_r_, .inl (g 0, n_r_, .inl r_))] ++ (offS ad_5 tp_o0 hd_o0 tf_o0 cf_o0 g of_0 ++ (offS ad_10 tp_o8 hd_o8 tf_o8 cf_o8 g of_0))) H_9.size q → A q := A_all hDc hA hS.1
  refine va_callv (va_runS (As := [.ref t_o0, .ref t_o8, .ref a_r_]) (rest := []) ⟨hx, hb, hml, hown, hts⟩ (c_L_copies l hlf dC dI g (tp_p_ := tp_o0) (hd_p_ := hd_o0) (tf_p_ := tf_o0) (cf_p_ := cf_o0) (htf_p_ := htf_o0) (hcf_p_ := hcf_o0) (a_p_ := ad_5) (t_p_ := t_o0) (h_p_ := had_5) (o_p_ := of_0) (tp_q_ := tp_o8) (hd_q_ := hd_o8) (tf_q_ := tf_o8) (cf_q_ := cf_o8) (htf_q_ := htf_o8) (hcf_q_ := hcf_o8) (a_q_ := ad_10) (t_q_ := t_o8) (h_q_ := had_10) (o_q_ := of_0) (a_r_ := a_r_) (n_r_ := n_r_) (r_ := r_) (hw := hw) (sz := H_9.size)) (va_cwS 3 hts (gqS aw_6_107 aw_6_108 aw_1_0 aw_6_109) rfl rfl rfl (by decide +kernel) ⟨Nat.le_of_ble_eq_true rfl, Nat.le_of_ble_eq_true rfl⟩) ⟨PG_blind, PG_call hK hG hS hPc hDc hFc⟩ rfl rfl hl.1 rfl (lv_room (Nat.le_of_ble_eq_true rfl)) dL_isProgram_19 ⟨by rw [hrc]; omega, by rw [hrs]; omega⟩) hS (fun q _ h => hFc q h) hFc (fun u_11 t_11 H_11 L_11 ht_11 hvm_11 hw_11 hB_11 hz_11 hk_11 hS => ?_)
  obtain ⟨r__12, ad_13, o_14, ad_15, o_16, u_11⟩ := u_11
  obtain ⟨hw, had_13, had_15⟩ := hw_11
  rw [ht_11] at hB_11
  obtain ⟨hP1, hD1⟩ := hB_11
  obtain ⟨hP, hD⟩ := join_r hPs hDs hk_11 hFc hP1 hD1
  obtain ⟨hP, hD⟩ := seg_join [] [[(a_r_, .inl (g 0, n_r_, .inl r__12))], offS ad_13 tp_o0 hd_o0 tf_o0 cf_o0 g o_14, offS ad_15 tp_o8 hd_o8 tf_o8 cf_o8 g o_16] [[(a_r_, .inl (g 0, n_r_, .inl r__12))], offS ad_13 tp_o0 hd_o0 tf_o0 cf_o0 g o_14, offS ad_15 tp_o8 hd_o8 tf_o8 cf_o8 g o_16] 3 [0, 1, 2] rfl rfl (by decide) hP hD
  have hP : va_P (dC, dI) vwCl ([(a_r_, .inl (g 0, n_r_, .inl r__12))] ++ (offS ad_13 tp_o0 hd_o0 tf_o0 cf_o0 g o_14 ++ (offS ad_15 tp_o8 hd_o8 tf_o8 cf_o8 g o_16))) H_11 := hP
  have hD : va_D A ([(a_r_, .inl (g 0, n_r_, .inl r__12))] ++ (offS ad_13 tp_o0 hd_o0 tf_o0 cf_o0 g o_14 ++ (offS ad_15 tp_o8 hd_o8 tf_o8 cf_o8 g o_16))) := hD
  refine W.widen (k := 376) (n := 21968) (by omega) (by omega) ?_
  refine lv_aload_n hx hb dL_isProgram_22 rfl (lv_at hl 1 rfl) ?_
  refine lv_aload_n hx hb dL_isProgram_23 rfl (lv_at hl 2 rfl) ?_
  refine lv_iconst (v := 2) hx hb dL_isProgram_24 (by decide) ?_
  obtain ⟨hPs, hDs⟩ := seg_call (segs := [[(a_r_, .inl (g 0, n_r_, .inl r__12))], offS ad_13 tp_o0 hd_o0 tf_o0 cf_o0 g o_14, offS ad_15 tp_o8 hd_o8 tf_o8 cf_o8 g o_16]) [offS ad_13 tp_o0 hd_o0 tf_o0 cf_o0 g o_14, offS ad_15 tp_o8 hd_o8 tf_o8 cf_o8 g o_16] [[(a_r_, .inl (g 0, n_r_, .inl r__12))]] 3 [1, 2, 0] rfl rfl (by decide) hP hD
  have hPc : va_P (dC, dI) vwCl [(a_r_, .inl (g 0, n_r_, .inl r__12))] H_11 := P_r hPs
  have hDc : va_D A [(a_r_, .inl (g 0, n_r_, .inl r__12))] := D_r hDs
  have hFc : ∀ q, va_A [(a_r_, .inl (g 0, n_r_, .inl r__12))] H_11.size q → A q := A_all hDc hA hS.1
  refine va_calli (va_runS (As := [.ref a_r_, .int 2]) (rest := [.ref t_o0]) ⟨hx, hb, hml, hown, hts⟩ (c_L_draw l hlf dC dI g (a_r_ := a_r_) (n_r_ := n_r_) (r_ := r__12) (many := 2) (hw := hw) (sz := H_11.size)) (va_cwS 2 hts (gqS aw_2_215 aw_2_216 aw_1_0 aw_2_217) rfl rfl rfl (by decide +kernel) ⟨Nat.le_of_ble_eq_true rfl, Nat.le_of_ble_eq_true rfl⟩) ⟨PG_blind, PG_call hK hG hS hPc hDc hFc⟩ rfl rfl hl.1 rfl (lv_room (Nat.le_of_ble_eq_true rfl)) dL_isProgram_25 ⟨by rw [hrc]; omega, by rw [hrs]; omega⟩) hS (fun q _ h => hFc q h) hFc (fun r_17 u_17 t_17 H_17 L_17 ht_17 hvm_17 hw_17 hB_17 hz_17 hk_17 hS => ?_)
  obtain ⟨r__18, u_17⟩ := u_17
  have hw := hw_17
  rw [ht_17] at hB_17
  obtain ⟨hP1, hD1⟩ := hB_17
  obtain ⟨hP, hD⟩ := join_r hPs hDs hk_17 hFc hP1 hD1
  obtain ⟨hP, hD⟩ := seg_join [offS ad_13 tp_o0 hd_o0 tf_o0 cf_o0 g o_14, offS ad_15 tp_o8 hd_o8 tf_o8 cf_o8 g o_16] [[(a_r_, .inl (g 0, n_r_, .inl r__18))]] [[(a_r_, .inl (g 0, n_r_, .inl r__18))], offS ad_13 tp_o0 hd_o0 tf_o0 cf_o0 g o_14, offS ad_15 tp_o8 hd_o8 tf_o8 cf_o8 g o_16] 3 [2, 0, 1] rfl rfl (by decide) hP hD
  have hP : va_P (dC, dI) vwCl ([(a_r_, .inl (g 0, n_r_, .inl r__18))] ++ (offS ad_13 tp_o0 hd_o0 tf_o0 cf_o0 g o_14 ++ (offS ad_15 tp_o8 hd_o8 tf_o8 cf_o8 g o_16))) H_17 := hP
  have hD : va_D A ([(a_r_, .inl (g 0, n_r_, .inl r__18))] ++ (offS ad_13 tp_o0 hd_o0 tf_o0 cf_o0 g o_14 ++ (offS ad_15 tp_o8 hd_o8 tf_o8 cf_o8 g o_16))) := hD
  refine W.widen (k := 376) (n := 21968) (by omega) (by omega) ?_
  refine lv_aload_n hx hb dL_isProgram_28 rfl (lv_at hl 2 rfl) ?_
  refine lv_iconst (v := 3) hx hb dL_isProgram_29 (by decide) ?_
  obtain ⟨hPs, hDs⟩ := seg_call (segs := [[(a_r_, .inl (g 0, n_r_, .inl r__18))], offS ad_13 tp_o0 hd_o0 tf_o0 cf_o0 g o_14, offS ad_15 tp_o8 hd_o8 tf_o8 cf_o8 g o_16]) [offS ad_13 tp_o0 hd_o0 tf_o0 cf_o0 g o_14, offS ad_15 tp_o8 hd_o8 tf_o8 cf_o8 g o_16] [[(a_r_, .inl (g 0, n_r_, .inl r__18))]] 3 [1, 2, 0] rfl rfl (by decide) hP hD
  have hPc : va_P (dC, dI) vwCl [(a_r_, .inl (g 0, n_r_, .inl r__18))] H_17 := P_r hPs
  have hDc : va_D A [(a_r_, .inl (g 0, n_r_, .inl r__18))] := D_r hDs
  have hFc : ∀ q, va_A [(a_r_, .inl (g 0, n_r_, .inl r__18))] H_17.size q → A q := A_all hDc hA hS.1
  refine va_calli (va_runS (As := [.ref a_r_, .int 3]) (rest := [.int r_17, .ref t_o0]) ⟨hx, hb, hml, hown, hts⟩ (c_L_draw l hlf dC dI g (a_r_ := a_r_) (n_r_ := n_r_) (r_ := r__18) (many := 3) (hw := hw) (sz := H_17.size)) (va_cwS 2 hts (gqS aw_2_215 aw_2_216 aw_1_0 aw_2_217) rfl rfl rfl (by decide +kernel) ⟨Nat.le_of_ble_eq_true rfl, Nat.le_of_ble_eq_true rfl⟩) ⟨PG_blind, PG_call hK hG hS hPc hDc hFc⟩ rfl rfl hl.1 rfl (lv_room (Nat.le_of_ble_eq_true rfl)) dL_isProgram_30 ⟨by rw [hrc]; omega, by rw [hrs]; omega⟩) hS (fun q _ h => hFc q h) hFc (fun r_19 u_19 t_19 H_19 L_19 ht_19 hvm_19 hw_19 hB_19 hz_19 hk_19 hS => ?_)
  obtain ⟨r__20, u_19⟩ := u_19
  have hw := hw_19
  rw [ht_19] at hB_19
  obtain ⟨hP1, hD1⟩ := hB_19
  obtain ⟨hP, hD⟩ := join_r hPs hDs hk_19 hFc hP1 hD1
  obtain ⟨hP, hD⟩ := seg_join [offS ad_13 tp_o0 hd_o0 tf_o0 cf_o0 g o_14, offS ad_15 tp_o8 hd_o8 tf_o8 cf_o8 g o_16] [[(a_r_, .inl (g 0, n_r_, .inl r__20))]] [[(a_r_, .inl (g 0, n_r_, .inl r__20))], offS ad_13 tp_o0 hd_o0 tf_o0 cf_o0 g o_14, offS ad_15 tp_o8 hd_o8 tf_o8 cf_o8 g o_16] 3 [2, 0, 1] rfl rfl (by decide) hP hD
  have hP : va_P (dC, dI) vwCl ([(a_r_, .inl (g 0, n_r_, .inl r__20))] ++ (offS ad_13 tp_o0 hd_o0 tf_o0 cf_o0 g o_14 ++ (offS ad_15 tp_o8 hd_o8 tf_o8 cf_o8 g o_16))) H_19 := hP
  have hD : va_D A ([(a_r_, .inl (g 0, n_r_, .inl r__20))] ++ (offS ad_13 tp_o0 hd_o0 tf_o0 cf_o0 g o_14 ++ (offS ad_15 tp_o8 hd_o8 tf_o8 cf_o8 g o_16))) := hD
  refine W.widen (k := 376) (n := 21968) (by omega) (by omega) ?_
  refine lv_iconst (v := 1) hx hb dL_isProgram_33 (by decide) ?_
  refine lv_aload_n hx hb dL_isProgram_34 rfl (lv_at hl 2 rfl) ?_
  refine lv_bipush (v := 6) hx hb dL_isProgram_35 (by decide) ?_
  obtain ⟨hPs, hDs⟩ := seg_call (segs := [[(a_r_, .inl (g 0, n_r_, .inl r__20))], offS ad_13 tp_o0 hd_o0 tf_o0 cf_o0 g o_14, offS ad_15 tp_o8 hd_o8 tf_o8 cf_o8 g o_16]) [offS ad_13 tp_o0 hd_o0 tf_o0 cf_o0 g o_14, offS ad_15 tp_o8 hd_o8 tf_o8 cf_o8 g o_16] [[(a_r_, .inl (g 0, n_r_, .inl r__20))]] 3 [1, 2, 0] rfl rfl (by decide) hP hD
  have hPc : va_P (dC, dI) vwCl [(a_r_, .inl (g 0, n_r_, .inl r__20))] H_19 := P_r hPs
  have hDc : va_D A [(a_r_, .inl (g 0, n_r_, .inl r__20))] := D_r hDs
  have hFc : ∀ q, va_A [(a_r_, .inl (g 0, n_r_, .inl r__20))] H_19.size q → A q := A_all hDc hA hS.1
  refine va_calli (va_runS (As := [.ref a_r_, .int 6]) (rest := [.int 1, .int r_19, .int r_17, .ref t_o0]) ⟨hx, hb, hml, hown, hts⟩ (c_L_draw l hlf dC dI g (a_r_ := a_r_) (n_r_ := n_r_) (r_ := r__20) (many := 6) (hw := hw) (sz := H_19.size)) (va_cwS 2 hts (gqS aw_2_215 aw_2_216 aw_1_0 aw_2_217) rfl rfl rfl (by decide +kernel) ⟨Nat.le_of_ble_eq_true rfl, Nat.le_of_ble_eq_true rfl⟩) ⟨PG_blind, PG_call hK hG hS hPc hDc hFc⟩ rfl rfl hl.1 rfl (lv_room (Nat.le_of_ble_eq_true rfl)) dL_isProgram_37 ⟨by rw [hrc]; omega, by rw [hrs]; omega⟩) hS (fun q _ h => hFc q h) hFc (fun r_21 u_21 t_21 H_21 L_21 ht_21 hvm_21 hw_21 hB_21 hz_21 hk_21 hS => ?_)
  obtain ⟨r__22, u_21⟩ := u_21
  have hw := hw_21
  rw [ht_21] at hB_21
  obtain ⟨hP1, hD1⟩ := hB_21
  obtain ⟨hP, hD⟩ := join_r hPs hDs hk_21 hFc hP1 hD1
  obtain ⟨hP, hD⟩ := seg_join [offS ad_13 tp_o0 hd_o0 tf_o0 cf_o0 g o_14, offS ad_15 tp_o8 hd_o8 tf_o8 cf_o8 g o_16] [[(a_r_, .inl (g 0, n_r_, .inl r__22))]] [[(a_r_, .inl (g 0, n_r_, .inl r__22))], offS ad_13 tp_o0 hd_o0 tf_o0 cf_o0 g o_14, offS ad_15 tp_o8 hd_o8 tf_o8 cf_o8 g o_16] 3 [2, 0, 1] rfl rfl (by decide) hP hD
  have hP : va_P (dC, dI) vwCl ([(a_r_, .inl (g 0, n_r_, .inl r__22))] ++ (offS ad_13 tp_o0 hd_o0 tf_o0 cf_o0 g o_14 ++ (offS ad_15 tp_o8 hd_o8 tf_o8 cf_o8 g o_16))) H_21 := hP
  have hD : va_D A ([(a_r_, .inl (g 0, n_r_, .inl r__22))] ++ (offS ad_13 tp_o0 hd_o0 tf_o0 cf_o0 g o_14 ++ (offS ad_15 tp_o8 hd_o8 tf_o8 cf_o8 g o_16))) := hD
  refine W.widen (k := 376) (n := 21968) (by omega) (by omega) ?_
  refine lv_iadd hx hb dL_isProgram_40 ?_
  refine lv_topi (fun x_23 ex_23 => ?_)
  have hw := hw x_23 ex_23
  obtain ⟨hPs, hDs⟩ := seg_call (segs := [[(a_r_, .inl (g 0, n_r_, .inl r__22))], offS ad_13 tp_o0 hd_o0 tf_o0 cf_o0 g o_14, offS ad_15 tp_o8 hd_o8 tf_o8 cf_o8 g o_16]) [[(a_r_, .inl (g 0, n_r_, .inl r__22))], offS ad_15 tp_o8 hd_o8 tf_o8 cf_o8 g o_16] [offS ad_13 tp_o0 hd_o0 tf_o0 cf_o0 g o_14] 3 [0, 2, 1] rfl rfl (by decide) hP hD
  have hPc : va_P (dC, dI) vwCl (offS ad_13 tp_o0 hd_o0 tf_o0 cf_o0 g o_14) H_21 := P_r hPs
  have hDc : va_D A (offS ad_13 tp_o0 hd_o0 tf_o0 cf_o0 g o_14) := D_r hDs
  have hFc : ∀ q, va_A (offS ad_13 tp_o0 hd_o0 tf_o0 cf_o0 g o_14) H_21.size q → A q := A_all hDc hA hS.1
  refine vx_calli (vx_runV (As := [.int r_17, .int r_19, .int x_23]) (rest := []) ⟨hx, hb, hml, hown, hts⟩ (p_setRuns l hlf dC dI g tp_o0 hd_o0 tf_o0 cf_o0 htf_o0 hcf_o0 ad_13 t_o0 had_13 o_14 r_17 r_19 x_23 (hw := hw) (sz := H_21.size)) (cwV 3 hts (gqV aw_3_154 aw_3_155 aw_3_156 aw_1_1 aw_3_157) rfl rfl rfl (by decide +kernel) ⟨Nat.le_of_ble_eq_true rfl, Nat.le_of_ble_eq_true rfl⟩) ⟨PG_blind, off_recv had_13 hK hPc, PG_call hK hG hS hPc hDc hFc⟩ rfl rfl hl.1 rfl (lv_room (Nat.le_of_ble_eq_true rfl)) dL_isProgram_41 ⟨by rw [hrc]; omega, by rw [hrs]; omega⟩) hS (fun q _ h => hFc q h) hFc (fun q _ h => hFc q h) (fun E ce q9 ux t H1 locs1 ht hvm hp9 hB9 hz hk hS9 hce hcv hcl => ?_) (fun r_24 u_24 t_24 H_24 L_24 ht_24 hvm_24 hw_24 hB_24 hz_24 hk_24 hS => ?_)
  · exact (hB9.1.1).elim
  obtain ⟨ad_25, o_26⟩ := u_24
  obtain ⟨hw, had_25⟩ := hw_24
  rw [ht_24] at hB_24
  obtain ⟨hP1, hD1⟩ := hB_24
  obtain ⟨hP, hD⟩ := join_r hPs hDs hk_24 hFc hP1 hD1
  obtain ⟨hP, hD⟩ := seg_join [[(a_r_, .inl (g 0, n_r_, .inl r__22))], offS ad_15 tp_o8 hd_o8 tf_o8 cf_o8 g o_16] [offS ad_25 tp_o0 hd_o0 tf_o0 cf_o0 g o_26] [[(a_r_, .inl (g 0, n_r_, .inl r__22))], offS ad_25 tp_o0 hd_o0 tf_o0 cf_o0 g o_26, offS ad_15 tp_o8 hd_o8 tf_o8 cf_o8 g o_16] 3 [0, 2, 1] rfl rfl (by decide) hP hD
  have hP : va_P (dC, dI) vwCl ([(a_r_, .inl (g 0, n_r_, .inl r__22))] ++ (offS ad_25 tp_o0 hd_o0 tf_o0 cf_o0 g o_26 ++ (offS ad_15 tp_o8 hd_o8 tf_o8 cf_o8 g o_16))) H_24 := hP
  have hD : va_D A ([(a_r_, .inl (g 0, n_r_, .inl r__22))] ++ (offS ad_25 tp_o0 hd_o0 tf_o0 cf_o0 g o_26 ++ (offS ad_15 tp_o8 hd_o8 tf_o8 cf_o8 g o_16))) := hD
  refine W.widen (k := 379) (n := 21986) (by omega) (by omega) ?_
  refine lv_aload_n hx hb dL_isProgram_44 rfl (lv_at hl 1 rfl) ?_
  refine lv_aload_n hx hb dL_isProgram_45 rfl (lv_at hl 2 rfl) ?_
  refine lv_iconst (v := 3) hx hb dL_isProgram_46 (by decide) ?_
  obtain ⟨hPs, hDs⟩ := seg_call (segs := [[(a_r_, .inl (g 0, n_r_, .inl r__22))], offS ad_25 tp_o0 hd_o0 tf_o0 cf_o0 g o_26, offS ad_15 tp_o8 hd_o8 tf_o8 cf_o8 g o_16]) [offS ad_25 tp_o0 hd_o0 tf_o0 cf_o0 g o_26, offS ad_15 tp_o8 hd_o8 tf_o8 cf_o8 g o_16] [[(a_r_, .inl (g 0, n_r_, .inl r__22))]] 3 [1, 2, 0] rfl rfl (by decide) hP hD
  have hPc : va_P (dC, dI) vwCl [(a_r_, .inl (g 0, n_r_, .inl r__22))] H_24 := P_r hPs
  have hDc : va_D A [(a_r_, .inl (g 0, n_r_, .inl r__22))] := D_r hDs
  have hFc : ∀ q, va_A [(a_r_, .inl (g 0, n_r_, .inl r__22))] H_24.size q → A q := A_all hDc hA hS.1
  refine va_calli (va_runS (As := [.ref a_r_, .int 3]) (rest := [.ref t_o0, .int r_24]) ⟨hx, hb, hml, hown, hts⟩ (c_L_draw l hlf dC dI g (a_r_ := a_r_) (n_r_ := n_r_) (r_ := r__22) (many := 3) (hw := hw) (sz := H_24.size)) (va_cwS 2 hts (gqS aw_2_215 aw_2_216 aw_1_0 aw_2_217) rfl rfl rfl (by decide +kernel) ⟨Nat.le_of_ble_eq_true rfl, Nat.le_of_ble_eq_true rfl⟩) ⟨PG_blind, PG_call hK hG hS hPc hDc hFc⟩ rfl rfl hl.1 rfl (lv_room (Nat.le_of_ble_eq_true rfl)) dL_isProgram_47 ⟨by rw [hrc]; omega, by rw [hrs]; omega⟩) hS (fun q _ h => hFc q h) hFc (fun r_27 u_27 t_27 H_27 L_27 ht_27 hvm_27 hw_27 hB_27 hz_27 hk_27 hS => ?_)
  obtain ⟨r__28, u_27⟩ := u_27
  have hw := hw_27
  rw [ht_27] at hB_27
  obtain ⟨hP1, hD1⟩ := hB_27
  obtain ⟨hP, hD⟩ := join_r hPs hDs hk_27 hFc hP1 hD1
  obtain ⟨hP, hD⟩ := seg_join [offS ad_25 tp_o0 hd_o0 tf_o0 cf_o0 g o_26, offS ad_15 tp_o8 hd_o8 tf_o8 cf_o8 g o_16] [[(a_r_, .inl (g 0, n_r_, .inl r__28))]] [[(a_r_, .inl (g 0, n_r_, .inl r__28))], offS ad_25 tp_o0 hd_o0 tf_o0 cf_o0 g o_26, offS ad_15 tp_o8 hd_o8 tf_o8 cf_o8 g o_16] 3 [2, 0, 1] rfl rfl (by decide) hP hD
  have hP : va_P (dC, dI) vwCl ([(a_r_, .inl (g 0, n_r_, .inl r__28))] ++ (offS ad_25 tp_o0 hd_o0 tf_o0 cf_o0 g o_26 ++ (offS ad_15 tp_o8 hd_o8 tf_o8 cf_o8 g o_16))) H_27 := hP
  have hD : va_D A ([(a_r_, .inl (g 0, n_r_, .inl r__28))] ++ (offS ad_25 tp_o0 hd_o0 tf_o0 cf_o0 g o_26 ++ (offS ad_15 tp_o8 hd_o8 tf_o8 cf_o8 g o_16))) := hD
  refine W.widen (k := 379) (n := 21986) (by omega) (by omega) ?_
  refine lv_iconst (v := 2) hx hb dL_isProgram_50 (by decide) ?_
  refine lv_aload_n hx hb dL_isProgram_51 rfl (lv_at hl 2 rfl) ?_
  refine lv_iconst (v := 5) hx hb dL_isProgram_52 (by decide) ?_
  obtain ⟨hPs, hDs⟩ := seg_call (segs := [[(a_r_, .inl (g 0, n_r_, .inl r__28))], offS ad_25 tp_o0 hd_o0 tf_o0 cf_o0 g o_26, offS ad_15 tp_o8 hd_o8 tf_o8 cf_o8 g o_16]) [offS ad_25 tp_o0 hd_o0 tf_o0 cf_o0 g o_26, offS ad_15 tp_o8 hd_o8 tf_o8 cf_o8 g o_16] [[(a_r_, .inl (g 0, n_r_, .inl r__28))]] 3 [1, 2, 0] rfl rfl (by decide) hP hD
  have hPc : va_P (dC, dI) vwCl [(a_r_, .inl (g 0, n_r_, .inl r__28))] H_27 := P_r hPs
  have hDc : va_D A [(a_r_, .inl (g 0, n_r_, .inl r__28))] := D_r hDs
  have hFc : ∀ q, va_A [(a_r_, .inl (g 0, n_r_, .inl r__28))] H_27.size q → A q := A_all hDc hA hS.1
  refine va_calli (va_runS (As := [.ref a_r_, .int 5]) (rest := [.int 2, .int r_27, .ref t_o0, .int r_24]) ⟨hx, hb, hml, hown, hts⟩ (c_L_draw l hlf dC dI g (a_r_ := a_r_) (n_r_ := n_r_) (r_ := r__28) (many := 5) (hw := hw) (sz := H_27.size)) (va_cwS 2 hts (gqS aw_2_215 aw_2_216 aw_1_0 aw_2_217) rfl rfl rfl (by decide +kernel) ⟨Nat.le_of_ble_eq_true rfl, Nat.le_of_ble_eq_true rfl⟩) ⟨PG_blind, PG_call hK hG hS hPc hDc hFc⟩ rfl rfl hl.1 rfl (lv_room (Nat.le_of_ble_eq_true rfl)) dL_isProgram_53 ⟨by rw [hrc]; omega, by rw [hrs]; omega⟩) hS (fun q _ h => hFc q h) hFc (fun r_29 u_29 t_29 H_29 L_29 ht_29 hvm_29 hw_29 hB_29 hz_29 hk_29 hS => ?_)
  obtain ⟨r__30, u_29⟩ := u_29
  have hw := hw_29
  rw [ht_29] at hB_29
  obtain ⟨hP1, hD1⟩ := hB_29
  obtain ⟨hP, hD⟩ := join_r hPs hDs hk_29 hFc hP1 hD1
  obtain ⟨hP, hD⟩ := seg_join [offS ad_25 tp_o0 hd_o0 tf_o0 cf_o0 g o_26, offS ad_15 tp_o8 hd_o8 tf_o8 cf_o8 g o_16] [[(a_r_, .inl (g 0, n_r_, .inl r__30))]] [[(a_r_, .inl (g 0, n_r_, .inl r__30))], offS ad_25 tp_o0 hd_o0 tf_o0 cf_o0 g o_26, offS ad_15 tp_o8 hd_o8 tf_o8 cf_o8 g o_16] 3 [2, 0, 1] rfl rfl (by decide) hP hD
  have hP : va_P (dC, dI) vwCl ([(a_r_, .inl (g 0, n_r_, .inl r__30))] ++ (offS ad_25 tp_o0 hd_o0 tf_o0 cf_o0 g o_26 ++ (offS ad_15 tp_o8 hd_o8 tf_o8 cf_o8 g o_16))) H_29 := hP
  have hD : va_D A ([(a_r_, .inl (g 0, n_r_, .inl r__30))] ++ (offS ad_25 tp_o0 hd_o0 tf_o0 cf_o0 g o_26 ++ (offS ad_15 tp_o8 hd_o8 tf_o8 cf_o8 g o_16))) := hD
  refine W.widen (k := 379) (n := 21986) (by omega) (by omega) ?_
  refine lv_iadd hx hb dL_isProgram_56 ?_
  refine lv_topi (fun x_31 ex_31 => ?_)
  have hw := hw x_31 ex_31
  obtain ⟨hPs, hDs⟩ := seg_call (segs := [[(a_r_, .inl (g 0, n_r_, .inl r__30))], offS ad_25 tp_o0 hd_o0 tf_o0 cf_o0 g o_26, offS ad_15 tp_o8 hd_o8 tf_o8 cf_o8 g o_16]) [[(a_r_, .inl (g 0, n_r_, .inl r__30))], offS ad_15 tp_o8 hd_o8 tf_o8 cf_o8 g o_16] [offS ad_25 tp_o0 hd_o0 tf_o0 cf_o0 g o_26] 3 [0, 2, 1] rfl rfl (by decide) hP hD
  have hPc : va_P (dC, dI) vwCl (offS ad_25 tp_o0 hd_o0 tf_o0 cf_o0 g o_26) H_29 := P_r hPs
  have hDc : va_D A (offS ad_25 tp_o0 hd_o0 tf_o0 cf_o0 g o_26) := D_r hDs
  have hFc : ∀ q, va_A (offS ad_25 tp_o0 hd_o0 tf_o0 cf_o0 g o_26) H_29.size q → A q := A_all hDc hA hS.1
  refine vx_calli (vx_runV (As := [.int r_27, .int x_31]) (rest := [.int r_24]) ⟨hx, hb, hml, hown, hts⟩ (p_setMerge l hlf dC dI g tp_o0 hd_o0 tf_o0 cf_o0 htf_o0 hcf_o0 ad_25 t_o0 had_25 o_26 r_27 x_31 (hw := hw) (sz := H_29.size)) (cwV 2 hts (gqV aw_4_52 aw_4_53 aw_4_54 aw_1_1 aw_4_55) rfl rfl rfl (by decide +kernel) ⟨Nat.le_of_ble_eq_true rfl, Nat.le_of_ble_eq_true rfl⟩) ⟨PG_blind, off_recv had_25 hK hPc, PG_call hK hG hS hPc hDc hFc⟩ rfl rfl hl.1 rfl (lv_room (Nat.le_of_ble_eq_true rfl)) dL_isProgram_57 ⟨by rw [hrc]; omega, by rw [hrs]; omega⟩) hS (fun q _ h => hFc q h) hFc (fun q _ h => hFc q h) (fun E ce q9 ux t H1 locs1 ht hvm hp9 hB9 hz hk hS9 hce hcv hcl => ?_) (fun r_32 u_32 t_32 H_32 L_32 ht_32 hvm_32 hw_32 hB_32 hz_32 hk_32 hS => ?_)
  · exact (hB9.1.1).elim
  obtain ⟨ad_33, o_34⟩ := u_32
  obtain ⟨hw, had_33⟩ := hw_32
  rw [ht_32] at hB_32
  obtain ⟨hP1, hD1⟩ := hB_32
  obtain ⟨hP, hD⟩ := join_r hPs hDs hk_32 hFc hP1 hD1
  obtain ⟨hP, hD⟩ := seg_join [[(a_r_, .inl (g 0, n_r_, .inl r__30))], offS ad_15 tp_o8 hd_o8 tf_o8 cf_o8 g o_16] [offS ad_33 tp_o0 hd_o0 tf_o0 cf_o0 g o_34] [[(a_r_, .inl (g 0, n_r_, .inl r__30))], offS ad_33 tp_o0 hd_o0 tf_o0 cf_o0 g o_34, offS ad_15 tp_o8 hd_o8 tf_o8 cf_o8 g o_16] 3 [0, 2, 1] rfl rfl (by decide) hP hD
  have hP : va_P (dC, dI) vwCl ([(a_r_, .inl (g 0, n_r_, .inl r__30))] ++ (offS ad_33 tp_o0 hd_o0 tf_o0 cf_o0 g o_34 ++ (offS ad_15 tp_o8 hd_o8 tf_o8 cf_o8 g o_16))) H_32 := hP
  have hD : va_D A ([(a_r_, .inl (g 0, n_r_, .inl r__30))] ++ (offS ad_33 tp_o0 hd_o0 tf_o0 cf_o0 g o_34 ++ (offS ad_15 tp_o8 hd_o8 tf_o8 cf_o8 g o_16))) := hD
  refine W.widen (k := 381) (n := 21998) (by omega) (by omega) ?_
  refine lv_iadd hx hb dL_isProgram_60 ?_
  refine lv_topi (fun x_35 ex_35 => ?_)
  have hw := hw x_35 ex_35
  refine lv_istore_n (lv' := [(3, .int x_35), (2, .ref t_o8), (1, .ref t_o0), (0, .ref a_r_)]) hx hb dL_isProgram_61 rfl hl (by decide) rfl (fun ls hl => ?_)
  refine lv_aload_n hx hb dL_isProgram_62 rfl (lv_at hl 1 rfl) ?_
  refine lv_aload_n hx hb dL_isProgram_63 rfl (lv_at hl 2 rfl) ?_
  refine lv_iconst (v := 0) hx hb dL_isProgram_64 (by decide) ?_
  obtain ⟨hPs, hDs⟩ := seg_call (segs := [[(a_r_, .inl (g 0, n_r_, .inl r__30))], offS ad_33 tp_o0 hd_o0 tf_o0 cf_o0 g o_34, offS ad_15 tp_o8 hd_o8 tf_o8 cf_o8 g o_16]) [[(a_r_, .inl (g 0, n_r_, .inl r__30))], offS ad_15 tp_o8 hd_o8 tf_o8 cf_o8 g o_16] [offS ad_33 tp_o0 hd_o0 tf_o0 cf_o0 g o_34] 3 [0, 2, 1] rfl rfl (by decide) hP hD
  have hPc : va_P (dC, dI) vwCl (offS ad_33 tp_o0 hd_o0 tf_o0 cf_o0 g o_34) H_32 := P_r hPs
  have hDc : va_D A (offS ad_33 tp_o0 hd_o0 tf_o0 cf_o0 g o_34) := D_r hDs
  have hFc : ∀ q, va_A (offS ad_33 tp_o0 hd_o0 tf_o0 cf_o0 g o_34) H_32.size q → A q := A_all hDc hA hS.1
  refine vx_calli (vx_runV (As := [.int 0]) (rest := [.ref t_o8]) ⟨hx, hb, hml, hown, hts⟩ (p_setting l hlf dC dI g tp_o0 hd_o0 tf_o0 cf_o0 htf_o0 hcf_o0 ad_33 t_o0 had_33 o_34 0 (hw := hw) (sz := H_32.size)) (cwV 1 hts (gqV aw_6_71 aw_6_72 aw_6_73 aw_1_1 aw_6_74) rfl rfl rfl (by decide +kernel) ⟨Nat.le_of_ble_eq_true rfl, Nat.le_of_ble_eq_true rfl⟩) ⟨PG_blind, off_recv had_33 hK hPc, PG_call hK hG hS hPc hDc hFc⟩ rfl rfl hl.1 rfl (lv_room (Nat.le_of_ble_eq_true rfl)) dL_isProgram_65 ⟨by rw [hrc]; omega, by rw [hrs]; omega⟩) hS (fun q _ h => hFc q h) hFc (fun q _ h => hFc q h) (fun E ce q9 ux t H1 locs1 ht hvm hp9 hB9 hz hk hS9 hce hcv hcl => ?_) (fun r_36 u_36 t_36 H_36 L_36 ht_36 hvm_36 hw_36 hB_36 hz_36 hk_36 hS => ?_)
  · exact (hB9.1.1).elim
  obtain ⟨ad_37, o_38⟩ := u_36
  obtain ⟨hw, had_37⟩ := hw_36
  rw [ht_36] at hB_36
  obtain ⟨hP1, hD1⟩ := hB_36
  obtain ⟨hP, hD⟩ := join_r hPs hDs hk_36 hFc hP1 hD1
  obtain ⟨hP, hD⟩ := seg_join [[(a_r_, .inl (g 0, n_r_, .inl r__30))], offS ad_15 tp_o8 hd_o8 tf_o8 cf_o8 g o_16] [offS ad_37 tp_o0 hd_o0 tf_o0 cf_o0 g o_38] [[(a_r_, .inl (g 0, n_r_, .inl r__30))], offS ad_37 tp_o0 hd_o0 tf_o0 cf_o0 g o_38, offS ad_15 tp_o8 hd_o8 tf_o8 cf_o8 g o_16] 3 [0, 2, 1] rfl rfl (by decide) hP hD
  have hP : va_P (dC, dI) vwCl ([(a_r_, .inl (g 0, n_r_, .inl r__30))] ++ (offS ad_37 tp_o0 hd_o0 tf_o0 cf_o0 g o_38 ++ (offS ad_15 tp_o8 hd_o8 tf_o8 cf_o8 g o_16))) H_36 := hP
  have hD : va_D A ([(a_r_, .inl (g 0, n_r_, .inl r__30))] ++ (offS ad_37 tp_o0 hd_o0 tf_o0 cf_o0 g o_38 ++ (offS ad_15 tp_o8 hd_o8 tf_o8 cf_o8 g o_16))) := hD
  refine W.widen (k := 382) (n := 22004) (by omega) (by omega) ?_
  refine lv_aload_n hx hb dL_isProgram_68 rfl (lv_at hl 2 rfl) ?_
  refine lv_iconst (v := 1) hx hb dL_isProgram_69 (by decide) ?_
  obtain ⟨hPs, hDs⟩ := seg_call (segs := [[(a_r_, .inl (g 0, n_r_, .inl r__30))], offS ad_37 tp_o0 hd_o0 tf_o0 cf_o0 g o_38, offS ad_15 tp_o8 hd_o8 tf_o8 cf_o8 g o_16]) [[(a_r_, .inl (g 0, n_r_, .inl r__30))], offS ad_15 tp_o8 hd_o8 tf_o8 cf_o8 g o_16] [offS ad_37 tp_o0 hd_o0 tf_o0 cf_o0 g o_38] 3 [0, 2, 1] rfl rfl (by decide) hP hD
  have hPc : va_P (dC, dI) vwCl (offS ad_37 tp_o0 hd_o0 tf_o0 cf_o0 g o_38) H_36 := P_r hPs
  have hDc : va_D A (offS ad_37 tp_o0 hd_o0 tf_o0 cf_o0 g o_38) := D_r hDs
  have hFc : ∀ q, va_A (offS ad_37 tp_o0 hd_o0 tf_o0 cf_o0 g o_38) H_36.size q → A q := A_all hDc hA hS.1
  refine vx_calli (vx_runV (As := [.int 1]) (rest := [.int r_36, .ref t_o8]) ⟨hx, hb, hml, hown, hts⟩ (p_setting l hlf dC dI g tp_o0 hd_o0 tf_o0 cf_o0 htf_o0 hcf_o0 ad_37 t_o0 had_37 o_38 1 (hw := hw) (sz := H_36.size)) (cwV 1 hts (gqV aw_6_71 aw_6_72 aw_6_73 aw_1_1 aw_6_74) rfl rfl rfl (by decide +kernel) ⟨Nat.le_of_ble_eq_true rfl, Nat.le_of_ble_eq_true rfl⟩) ⟨PG_blind, off_recv had_37 hK hPc, PG_call hK hG hS hPc hDc hFc⟩ rfl rfl hl.1 rfl (lv_room (Nat.le_of_ble_eq_true rfl)) dL_isProgram_70 ⟨by rw [hrc]; omega, by rw [hrs]; omega⟩) hS (fun q _ h => hFc q h) hFc (fun q _ h => hFc q h) (fun E ce q9 ux t H1 locs1 ht hvm hp9 hB9 hz hk hS9 hce hcv hcl => ?_) (fun r_39 u_39 t_39 H_39 L_39 ht_39 hvm_39 hw_39 hB_39 hz_39 hk_39 hS => ?_)
  · exact (hB9.1.1).elim
  obtain ⟨ad_40, o_41⟩ := u_39
  obtain ⟨hw, had_40⟩ := hw_39
  rw [ht_39] at hB_39
  obtain ⟨hP1, hD1⟩ := hB_39
  obtain ⟨hP, hD⟩ := join_r hPs hDs hk_39 hFc hP1 hD1
  obtain ⟨hP, hD⟩ := seg_join [[(a_r_, .inl (g 0, n_r_, .inl r__30))], offS ad_15 tp_o8 hd_o8 tf_o8 cf_o8 g o_16] [offS ad_40 tp_o0 hd_o0 tf_o0 cf_o0 g o_41] [[(a_r_, .inl (g 0, n_r_, .inl r__30))], offS ad_40 tp_o0 hd_o0 tf_o0 cf_o0 g o_41, offS ad_15 tp_o8 hd_o8 tf_o8 cf_o8 g o_16] 3 [0, 2, 1] rfl rfl (by decide) hP hD
  have hP : va_P (dC, dI) vwCl ([(a_r_, .inl (g 0, n_r_, .inl r__30))] ++ (offS ad_40 tp_o0 hd_o0 tf_o0 cf_o0 g o_41 ++ (offS ad_15 tp_o8 hd_o8 tf_o8 cf_o8 g o_16))) H_39 := hP
  have hD : va_D A ([(a_r_, .inl (g 0, n_r_, .inl r__30))] ++ (offS ad_40 tp_o0 hd_o0 tf_o0 cf_o0 g o_41 ++ (offS ad_15 tp_o8 hd_o8 tf_o8 cf_o8 g o_16))) := hD
  refine W.widen (k := 383) (n := 22010) (by omega) (by omega) ?_
  refine lv_aload_n hx hb dL_isProgram_73 rfl (lv_at hl 2 rfl) ?_
  refine lv_iconst (v := 2) hx hb dL_isProgram_74 (by decide) ?_
  obtain ⟨hPs, hDs⟩ := seg_call (segs := [[(a_r_, .inl (g 0, n_r_, .inl r__30))], offS ad_40 tp_o0 hd_o0 tf_o0 cf_o0 g o_41, offS ad_15 tp_o8 hd_o8 tf_o8 cf_o8 g o_16]) [[(a_r_, .inl (g 0, n_r_, .inl r__30))], offS ad_15 tp_o8 hd_o8 tf_o8 cf_o8 g o_16] [offS ad_40 tp_o0 hd_o0 tf_o0 cf_o0 g o_41] 3 [0, 2, 1] rfl rfl (by decide) hP hD
  have hPc : va_P (dC, dI) vwCl (offS ad_40 tp_o0 hd_o0 tf_o0 cf_o0 g o_41) H_39 := P_r hPs
  have hDc : va_D A (offS ad_40 tp_o0 hd_o0 tf_o0 cf_o0 g o_41) := D_r hDs
  have hFc : ∀ q, va_A (offS ad_40 tp_o0 hd_o0 tf_o0 cf_o0 g o_41) H_39.size q → A q := A_all hDc hA hS.1
  refine vx_calli (vx_runV (As := [.int 2]) (rest := [.int r_39, .int r_36, .ref t_o8]) ⟨hx, hb, hml, hown, hts⟩ (p_setting l hlf dC dI g tp_o0 hd_o0 tf_o0 cf_o0 htf_o0 hcf_o0 ad_40 t_o0 had_40 o_41 2 (hw := hw) (sz := H_39.size)) (cwV 1 hts (gqV aw_6_71 aw_6_72 aw_6_73 aw_1_1 aw_6_74) rfl rfl rfl (by decide +kernel) ⟨Nat.le_of_ble_eq_true rfl, Nat.le_of_ble_eq_true rfl⟩) ⟨PG_blind, off_recv had_40 hK hPc, PG_call hK hG hS hPc hDc hFc⟩ rfl rfl hl.1 rfl (lv_room (Nat.le_of_ble_eq_true rfl)) dL_isProgram_75 ⟨by rw [hrc]; omega, by rw [hrs]; omega⟩) hS (fun q _ h => hFc q h) hFc (fun q _ h => hFc q h) (fun E ce q9 ux t H1 locs1 ht hvm hp9 hB9 hz hk hS9 hce hcv hcl => ?_) (fun r_42 u_42 t_42 H_42 L_42 ht_42 hvm_42 hw_42 hB_42 hz_42 hk_42 hS => ?_)
  · exact (hB9.1.1).elim
  obtain ⟨ad_43, o_44⟩ := u_42
  obtain ⟨hw, had_43⟩ := hw_42
  rw [ht_42] at hB_42
  obtain ⟨hP1, hD1⟩ := hB_42
  obtain ⟨hP, hD⟩ := join_r hPs hDs hk_42 hFc hP1 hD1
  obtain ⟨hP, hD⟩ := seg_join [[(a_r_, .inl (g 0, n_r_, .inl r__30))], offS ad_15 tp_o8 hd_o8 tf_o8 cf_o8 g o_16] [offS ad_43 tp_o0 hd_o0 tf_o0 cf_o0 g o_44] [[(a_r_, .inl (g 0, n_r_, .inl r__30))], offS ad_43 tp_o0 hd_o0 tf_o0 cf_o0 g o_44, offS ad_15 tp_o8 hd_o8 tf_o8 cf_o8 g o_16] 3 [0, 2, 1] rfl rfl (by decide) hP hD
  have hP : va_P (dC, dI) vwCl ([(a_r_, .inl (g 0, n_r_, .inl r__30))] ++ (offS ad_43 tp_o0 hd_o0 tf_o0 cf_o0 g o_44 ++ (offS ad_15 tp_o8 hd_o8 tf_o8 cf_o8 g o_16))) H_42 := hP
  have hD : va_D A ([(a_r_, .inl (g 0, n_r_, .inl r__30))] ++ (offS ad_43 tp_o0 hd_o0 tf_o0 cf_o0 g o_44 ++ (offS ad_15 tp_o8 hd_o8 tf_o8 cf_o8 g o_16))) := hD
  refine W.widen (k := 384) (n := 22016) (by omega) (by omega) ?_
  obtain ⟨hPs, hDs⟩ := seg_call (segs := [[(a_r_, .inl (g 0, n_r_, .inl r__30))], offS ad_43 tp_o0 hd_o0 tf_o0 cf_o0 g o_44, offS ad_15 tp_o8 hd_o8 tf_o8 cf_o8 g o_16]) [[(a_r_, .inl (g 0, n_r_, .inl r__30))], offS ad_43 tp_o0 hd_o0 tf_o0 cf_o0 g o_44] [offS ad_15 tp_o8 hd_o8 tf_o8 cf_o8 g o_16] 3 [0, 1, 2] rfl rfl (by decide) hP hD
  have hPc : va_P (dC, dI) vwCl (offS ad_15 tp_o8 hd_o8 tf_o8 cf_o8 g o_16) H_42 := P_r hPs
  have hDc : va_D A (offS ad_15 tp_o8 hd_o8 tf_o8 cf_o8 g o_16) := D_r hDs
  have hFc : ∀ q, va_A (offS ad_15 tp_o8 hd_o8 tf_o8 cf_o8 g o_16) H_42.size q → A q := A_all hDc hA hS.1
  refine vx_calli (vx_runV (As := [.int r_36, .int r_39, .int r_42]) (rest := []) ⟨hx, hb, hml, hown, hts⟩ (p_setRuns l hlf dC dI g tp_o8 hd_o8 tf_o8 cf_o8 htf_o8 hcf_o8 ad_15 t_o8 had_15 o_16 r_36 r_39 r_42 (hw := hw) (sz := H_42.size)) (cwV 3 hts (gqV aw_3_154 aw_3_155 aw_3_156 aw_1_1 aw_3_157) rfl rfl rfl (by decide +kernel) ⟨Nat.le_of_ble_eq_true rfl, Nat.le_of_ble_eq_true rfl⟩) ⟨PG_blind, off_recv had_15 hK hPc, PG_call hK hG hS hPc hDc hFc⟩ rfl rfl hl.1 rfl (lv_room (Nat.le_of_ble_eq_true rfl)) dL_isProgram_78 ⟨by rw [hrc]; omega, by rw [hrs]; omega⟩) hS (fun q _ h => hFc q h) hFc (fun q _ h => hFc q h) (fun E ce q9 ux t H1 locs1 ht hvm hp9 hB9 hz hk hS9 hce hcv hcl => ?_) (fun r_45 u_45 t_45 H_45 L_45 ht_45 hvm_45 hw_45 hB_45 hz_45 hk_45 hS => ?_)
  · exact (hB9.1.1).elim
  obtain ⟨ad_46, o_47⟩ := u_45
  obtain ⟨hw, had_46⟩ := hw_45
  rw [ht_45] at hB_45
  obtain ⟨hP1, hD1⟩ := hB_45
  obtain ⟨hP, hD⟩ := join_r hPs hDs hk_45 hFc hP1 hD1
  obtain ⟨hP, hD⟩ := seg_join [[(a_r_, .inl (g 0, n_r_, .inl r__30))], offS ad_43 tp_o0 hd_o0 tf_o0 cf_o0 g o_44] [offS ad_46 tp_o8 hd_o8 tf_o8 cf_o8 g o_47] [[(a_r_, .inl (g 0, n_r_, .inl r__30))], offS ad_43 tp_o0 hd_o0 tf_o0 cf_o0 g o_44, offS ad_46 tp_o8 hd_o8 tf_o8 cf_o8 g o_47] 3 [0, 1, 2] rfl rfl (by decide) hP hD
  have hP : va_P (dC, dI) vwCl ([(a_r_, .inl (g 0, n_r_, .inl r__30))] ++ (offS ad_43 tp_o0 hd_o0 tf_o0 cf_o0 g o_44 ++ (offS ad_46 tp_o8 hd_o8 tf_o8 cf_o8 g o_47))) H_45 := hP
  have hD : va_D A ([(a_r_, .inl (g 0, n_r_, .inl r__30))] ++ (offS ad_43 tp_o0 hd_o0 tf_o0 cf_o0 g o_44 ++ (offS ad_46 tp_o8 hd_o8 tf_o8 cf_o8 g o_47))) := hD
  refine W.widen (k := 387) (n := 22034) (by omega) (by omega) ?_
  refine lv_aload_n hx hb dL_isProgram_81 rfl (lv_at hl 1 rfl) ?_
  refine lv_aload_n hx hb dL_isProgram_82 rfl (lv_at hl 2 rfl) ?_
  refine lv_iconst (v := 3) hx hb dL_isProgram_83 (by decide) ?_
  obtain ⟨hPs, hDs⟩ := seg_call (segs := [[(a_r_, .inl (g 0, n_r_, .inl r__30))], offS ad_43 tp_o0 hd_o0 tf_o0 cf_o0 g o_44, offS ad_46 tp_o8 hd_o8 tf_o8 cf_o8 g o_47]) [[(a_r_, .inl (g 0, n_r_, .inl r__30))], offS ad_46 tp_o8 hd_o8 tf_o8 cf_o8 g o_47] [offS ad_43 tp_o0 hd_o0 tf_o0 cf_o0 g o_44] 3 [0, 2, 1] rfl rfl (by decide) hP hD
  have hPc : va_P (dC, dI) vwCl (offS ad_43 tp_o0 hd_o0 tf_o0 cf_o0 g o_44) H_45 := P_r hPs
  have hDc : va_D A (offS ad_43 tp_o0 hd_o0 tf_o0 cf_o0 g o_44) := D_r hDs
  have hFc : ∀ q, va_A (offS ad_43 tp_o0 hd_o0 tf_o0 cf_o0 g o_44) H_45.size q → A q := A_all hDc hA hS.1
  refine vx_calli (vx_runV (As := [.int 3]) (rest := [.ref t_o8, .int r_45]) ⟨hx, hb, hml, hown, hts⟩ (p_setting l hlf dC dI g tp_o0 hd_o0 tf_o0 cf_o0 htf_o0 hcf_o0 ad_43 t_o0 had_43 o_44 3 (hw := hw) (sz := H_45.size)) (cwV 1 hts (gqV aw_6_71 aw_6_72 aw_6_73 aw_1_1 aw_6_74) rfl rfl rfl (by decide +kernel) ⟨Nat.le_of_ble_eq_true rfl, Nat.le_of_ble_eq_true rfl⟩) ⟨PG_blind, off_recv had_43 hK hPc, PG_call hK hG hS hPc hDc hFc⟩ rfl rfl hl.1 rfl (lv_room (Nat.le_of_ble_eq_true rfl)) dL_isProgram_84 ⟨by rw [hrc]; omega, by rw [hrs]; omega⟩) hS (fun q _ h => hFc q h) hFc (fun q _ h => hFc q h) (fun E ce q9 ux t H1 locs1 ht hvm hp9 hB9 hz hk hS9 hce hcv hcl => ?_) (fun r_48 u_48 t_48 H_48 L_48 ht_48 hvm_48 hw_48 hB_48 hz_48 hk_48 hS => ?_)
  · exact (hB9.1.1).elim
  obtain ⟨ad_49, o_50⟩ := u_48
  obtain ⟨hw, had_49⟩ := hw_48
  rw [ht_48] at hB_48
  obtain ⟨hP1, hD1⟩ := hB_48
  obtain ⟨hP, hD⟩ := join_r hPs hDs hk_48 hFc hP1 hD1
  obtain ⟨hP, hD⟩ := seg_join [[(a_r_, .inl (g 0, n_r_, .inl r__30))], offS ad_46 tp_o8 hd_o8 tf_o8 cf_o8 g o_47] [offS ad_49 tp_o0 hd_o0 tf_o0 cf_o0 g o_50] [[(a_r_, .inl (g 0, n_r_, .inl r__30))], offS ad_49 tp_o0 hd_o0 tf_o0 cf_o0 g o_50, offS ad_46 tp_o8 hd_o8 tf_o8 cf_o8 g o_47] 3 [0, 2, 1] rfl rfl (by decide) hP hD
  have hP : va_P (dC, dI) vwCl ([(a_r_, .inl (g 0, n_r_, .inl r__30))] ++ (offS ad_49 tp_o0 hd_o0 tf_o0 cf_o0 g o_50 ++ (offS ad_46 tp_o8 hd_o8 tf_o8 cf_o8 g o_47))) H_48 := hP
  have hD : va_D A ([(a_r_, .inl (g 0, n_r_, .inl r__30))] ++ (offS ad_49 tp_o0 hd_o0 tf_o0 cf_o0 g o_50 ++ (offS ad_46 tp_o8 hd_o8 tf_o8 cf_o8 g o_47))) := hD
  refine W.widen (k := 388) (n := 22040) (by omega) (by omega) ?_
  refine lv_aload_n hx hb dL_isProgram_87 rfl (lv_at hl 2 rfl) ?_
  refine lv_iconst (v := 4) hx hb dL_isProgram_88 (by decide) ?_
  obtain ⟨hPs, hDs⟩ := seg_call (segs := [[(a_r_, .inl (g 0, n_r_, .inl r__30))], offS ad_49 tp_o0 hd_o0 tf_o0 cf_o0 g o_50, offS ad_46 tp_o8 hd_o8 tf_o8 cf_o8 g o_47]) [[(a_r_, .inl (g 0, n_r_, .inl r__30))], offS ad_46 tp_o8 hd_o8 tf_o8 cf_o8 g o_47] [offS ad_49 tp_o0 hd_o0 tf_o0 cf_o0 g o_50] 3 [0, 2, 1] rfl rfl (by decide) hP hD
  have hPc : va_P (dC, dI) vwCl (offS ad_49 tp_o0 hd_o0 tf_o0 cf_o0 g o_50) H_48 := P_r hPs
  have hDc : va_D A (offS ad_49 tp_o0 hd_o0 tf_o0 cf_o0 g o_50) := D_r hDs
  have hFc : ∀ q, va_A (offS ad_49 tp_o0 hd_o0 tf_o0 cf_o0 g o_50) H_48.size q → A q := A_all hDc hA hS.1
  refine vx_calli (vx_runV (As := [.int 4]) (rest := [.int r_48, .ref t_o8, .int r_45]) ⟨hx, hb, hml, hown, hts⟩ (p_setting l hlf dC dI g tp_o0 hd_o0 tf_o0 cf_o0 htf_o0 hcf_o0 ad_49 t_o0 had_49 o_50 4 (hw := hw) (sz := H_48.size)) (cwV 1 hts (gqV aw_6_71 aw_6_72 aw_6_73 aw_1_1 aw_6_74) rfl rfl rfl (by decide +kernel) ⟨Nat.le_of_ble_eq_true rfl, Nat.le_of_ble_eq_true rfl⟩) ⟨PG_blind, off_recv had_49 hK hPc, PG_call hK hG hS hPc hDc hFc⟩ rfl rfl hl.1 rfl (lv_room (Nat.le_of_ble_eq_true rfl)) dL_isProgram_89 ⟨by rw [hrc]; omega, by rw [hrs]; omega⟩) hS (fun q _ h => hFc q h) hFc (fun q _ h => hFc q h) (fun E ce q9 ux t H1 locs1 ht hvm hp9 hB9 hz hk hS9 hce hcv hcl => ?_) (fun r_51 u_51 t_51 H_51 L_51 ht_51 hvm_51 hw_51 hB_51 hz_51 hk_51 hS => ?_)
  · exact (hB9.1.1).elim
  obtain ⟨ad_52, o_53⟩ := u_51
  obtain ⟨hw, had_52⟩ := hw_51
  rw [ht_51] at hB_51
  obtain ⟨hP1, hD1⟩ := hB_51
  obtain ⟨hP, hD⟩ := join_r hPs hDs hk_51 hFc hP1 hD1
  obtain ⟨hP, hD⟩ := seg_join [[(a_r_, .inl (g 0, n_r_, .inl r__30))], offS ad_46 tp_o8 hd_o8 tf_o8 cf_o8 g o_47] [offS ad_52 tp_o0 hd_o0 tf_o0 cf_o0 g o_53] [[(a_r_, .inl (g 0, n_r_, .inl r__30))], offS ad_52 tp_o0 hd_o0 tf_o0 cf_o0 g o_53, offS ad_46 tp_o8 hd_o8 tf_o8 cf_o8 g o_47] 3 [0, 2, 1] rfl rfl (by decide) hP hD
  have hP : va_P (dC, dI) vwCl ([(a_r_, .inl (g 0, n_r_, .inl r__30))] ++ (offS ad_52 tp_o0 hd_o0 tf_o0 cf_o0 g o_53 ++ (offS ad_46 tp_o8 hd_o8 tf_o8 cf_o8 g o_47))) H_51 := hP
  have hD : va_D A ([(a_r_, .inl (g 0, n_r_, .inl r__30))] ++ (offS ad_52 tp_o0 hd_o0 tf_o0 cf_o0 g o_53 ++ (offS ad_46 tp_o8 hd_o8 tf_o8 cf_o8 g o_47))) := hD
  refine W.widen (k := 389) (n := 22046) (by omega) (by omega) ?_
  obtain ⟨hPs, hDs⟩ := seg_call (segs := [[(a_r_, .inl (g 0, n_r_, .inl r__30))], offS ad_52 tp_o0 hd_o0 tf_o0 cf_o0 g o_53, offS ad_46 tp_o8 hd_o8 tf_o8 cf_o8 g o_47]) [[(a_r_, .inl (g 0, n_r_, .inl r__30))], offS ad_52 tp_o0 hd_o0 tf_o0 cf_o0 g o_53] [offS ad_46 tp_o8 hd_o8 tf_o8 cf_o8 g o_47] 3 [0, 1, 2] rfl rfl (by decide) hP hD
  have hPc : va_P (dC, dI) vwCl (offS ad_46 tp_o8 hd_o8 tf_o8 cf_o8 g o_47) H_51 := P_r hPs
  have hDc : va_D A (offS ad_46 tp_o8 hd_o8 tf_o8 cf_o8 g o_47) := D_r hDs
  have hFc : ∀ q, va_A (offS ad_46 tp_o8 hd_o8 tf_o8 cf_o8 g o_47) H_51.size q → A q := A_all hDc hA hS.1
  refine vx_calli (vx_runV (As := [.int r_48, .int r_51]) (rest := [.int r_45]) ⟨hx, hb, hml, hown, hts⟩ (p_setMerge l hlf dC dI g tp_o8 hd_o8 tf_o8 cf_o8 htf_o8 hcf_o8 ad_46 t_o8 had_46 o_47 r_48 r_51 (hw := hw) (sz := H_51.size)) (cwV 2 hts (gqV aw_4_52 aw_4_53 aw_4_54 aw_1_1 aw_4_55) rfl rfl rfl (by decide +kernel) ⟨Nat.le_of_ble_eq_true rfl, Nat.le_of_ble_eq_true rfl⟩) ⟨PG_blind, off_recv had_46 hK hPc, PG_call hK hG hS hPc hDc hFc⟩ rfl rfl hl.1 rfl (lv_room (Nat.le_of_ble_eq_true rfl)) dL_isProgram_92 ⟨by rw [hrc]; omega, by rw [hrs]; omega⟩) hS (fun q _ h => hFc q h) hFc (fun q _ h => hFc q h) (fun E ce q9 ux t H1 locs1 ht hvm hp9 hB9 hz hk hS9 hce hcv hcl => ?_) (fun r_54 u_54 t_54 H_54 L_54 ht_54 hvm_54 hw_54 hB_54 hz_54 hk_54 hS => ?_)
  · exact (hB9.1.1).elim
  obtain ⟨ad_55, o_56⟩ := u_54
  obtain ⟨hw, had_55⟩ := hw_54
  rw [ht_54] at hB_54
  obtain ⟨hP1, hD1⟩ := hB_54
  obtain ⟨hP, hD⟩ := join_r hPs hDs hk_54 hFc hP1 hD1
  obtain ⟨hP, hD⟩ := seg_join [[(a_r_, .inl (g 0, n_r_, .inl r__30))], offS ad_52 tp_o0 hd_o0 tf_o0 cf_o0 g o_53] [offS ad_55 tp_o8 hd_o8 tf_o8 cf_o8 g o_56] [[(a_r_, .inl (g 0, n_r_, .inl r__30))], offS ad_52 tp_o0 hd_o0 tf_o0 cf_o0 g o_53, offS ad_55 tp_o8 hd_o8 tf_o8 cf_o8 g o_56] 3 [0, 1, 2] rfl rfl (by decide) hP hD
  have hP : va_P (dC, dI) vwCl ([(a_r_, .inl (g 0, n_r_, .inl r__30))] ++ (offS ad_52 tp_o0 hd_o0 tf_o0 cf_o0 g o_53 ++ (offS ad_55 tp_o8 hd_o8 tf_o8 cf_o8 g o_56))) H_54 := hP
  have hD : va_D A ([(a_r_, .inl (g 0, n_r_, .inl r__30))] ++ (offS ad_52 tp_o0 hd_o0 tf_o0 cf_o0 g o_53 ++ (offS ad_55 tp_o8 hd_o8 tf_o8 cf_o8 g o_56))) := hD
  refine W.widen (k := 391) (n := 22058) (by omega) (by omega) ?_
  refine lv_iadd hx hb dL_isProgram_95 ?_
  refine lv_topi (fun x_57 ex_57 => ?_)
  have hw := hw x_57 ex_57
  refine lv_istore_n (lv' := [(3, .int x_57), (2, .ref t_o8), (1, .ref t_o0), (0, .ref a_r_)]) hx hb dL_isProgram_96 rfl hl (by decide) rfl (fun ls hl => ?_)
  refine lv_aload_n hx hb dL_isProgram_97 rfl (lv_at hl 3 rfl) ?_
  refine lv_bipush (v := 6) hx hb dL_isProgram_98 (by decide) ?_
  obtain ⟨hPs, hDs⟩ := seg_call (segs := [[(a_r_, .inl (g 0, n_r_, .inl r__30))], offS ad_52 tp_o0 hd_o0 tf_o0 cf_o0 g o_53, offS ad_55 tp_o8 hd_o8 tf_o8 cf_o8 g o_56]) [offS ad_52 tp_o0 hd_o0 tf_o0 cf_o0 g o_53, offS ad_55 tp_o8 hd_o8 tf_o8 cf_o8 g o_56] [[(a_r_, .inl (g 0, n_r_, .inl r__30))]] 3 [1, 2, 0] rfl rfl (by decide) hP hD
  have hPc : va_P (dC, dI) vwCl [(a_r_, .inl (g 0, n_r_, .inl r__30))] H_54 := P_r hPs
  have hDc : va_D A [(a_r_, .inl (g 0, n_r_, .inl r__30))] := D_r hDs
  have hFc : ∀ q, va_A [(a_r_, .inl (g 0, n_r_, .inl r__30))] H_54.size q → A q := A_all hDc hA hS.1
  refine va_calli (va_runS (As := [.ref a_r_, .int 6]) (rest := []) ⟨hx, hb, hml, hown, hts⟩ (c_L_draw l hlf dC dI g (a_r_ := a_r_) (n_r_ := n_r_) (r_ := r__30) (many := 6) (hw := hw) (sz := H_54.size)) (va_cwS 2 hts (gqS aw_2_215 aw_2_216 aw_1_0 aw_2_217) rfl rfl rfl (by decide +kernel) ⟨Nat.le_of_ble_eq_true rfl, Nat.le_of_ble_eq_true rfl⟩) ⟨PG_blind, PG_call hK hG hS hPc hDc hFc⟩ rfl rfl hl.1 rfl (lv_room (Nat.le_of_ble_eq_true rfl)) dL_isProgram_100 ⟨by rw [hrc]; omega, by rw [hrs]; omega⟩) hS (fun q _ h => hFc q h) hFc (fun r_58 u_58 t_58 H_58 L_58 ht_58 hvm_58 hw_58 hB_58 hz_58 hk_58 hS => ?_)
  obtain ⟨r__59, u_58⟩ := u_58
  have hw := hw_58
  rw [ht_58] at hB_58
  obtain ⟨hP1, hD1⟩ := hB_58
  obtain ⟨hP, hD⟩ := join_r hPs hDs hk_58 hFc hP1 hD1
  obtain ⟨hP, hD⟩ := seg_join [offS ad_52 tp_o0 hd_o0 tf_o0 cf_o0 g o_53, offS ad_55 tp_o8 hd_o8 tf_o8 cf_o8 g o_56] [[(a_r_, .inl (g 0, n_r_, .inl r__59))]] [[(a_r_, .inl (g 0, n_r_, .inl r__59))], offS ad_52 tp_o0 hd_o0 tf_o0 cf_o0 g o_53, offS ad_55 tp_o8 hd_o8 tf_o8 cf_o8 g o_56] 3 [2, 0, 1] rfl rfl (by decide) hP hD
  have hP : va_P (dC, dI) vwCl ([(a_r_, .inl (g 0, n_r_, .inl r__59))] ++ (offS ad_52 tp_o0 hd_o0 tf_o0 cf_o0 g o_53 ++ (offS ad_55 tp_o8 hd_o8 tf_o8 cf_o8 g o_56))) H_58 := hP
  have hD : va_D A ([(a_r_, .inl (g 0, n_r_, .inl r__59))] ++ (offS ad_52 tp_o0 hd_o0 tf_o0 cf_o0 g o_53 ++ (offS ad_55 tp_o8 hd_o8 tf_o8 cf_o8 g o_56))) := hD
  refine W.widen (k := 391) (n := 22058) (by omega) (by omega) ?_
  refine lv_istore (lv' := [(4, .int r_58), (3, .int x_57), (2, .ref t_o8), (1, .ref t_o0), (0, .ref a_r_)]) hx hb dL_isProgram_103 hl (by decide) rfl (fun ls hl => ?_)
  refine va_new (ci := 1) (fs := [.null, .int 0, .int 0, .int 0]) (C := RJ4) (T := TJ4) (N := 4) hx hb hts hiJ4 tyJ4 tyJ4_ok hown hcl212 hinJ4 hiniJ4 hK hP hD hS hA rfl (fun j hj => by rcases (show j = 0 ∨ j = 1 ∨ j = 2 ∨ j = 3 by omega) with rfl | rfl | rfl | rfl <;> rfl) (by rw [hrc]; omega) (by rw [hrs]; omega) dL_isProgram_105 (fun a_q_60 H_61 hP hD hS => ?_)
  obtain ⟨hP, hD⟩ := seg_join [[(a_r_, .inl (g 0, n_r_, .inl r__59))], offS ad_52 tp_o0 hd_o0 tf_o0 cf_o0 g o_53, offS ad_55 tp_o8 hd_o8 tf_o8 cf_o8 g o_56] [[(a_q_60, .inr (1, [.null, .int 0, .int 0, .int 0]))]] [[(a_r_, .inl (g 0, n_r_, .inl r__59))], [(a_q_60, .inr (1, [.null, .int 0, .int 0, .int 0]))], offS ad_52 tp_o0 hd_o0 tf_o0 cf_o0 g o_53, offS ad_55 tp_o8 hd_o8 tf_o8 cf_o8 g o_56] 4 [0, 3, 1, 2] rfl rfl (by decide) hP hD
  have hP : va_P (dC, dI) vwCl ([(a_r_, .inl (g 0, n_r_, .inl r__59)), (a_q_60, .inr (1, [.null, .int 0, .int 0, .int 0]))] ++ (offS ad_52 tp_o0 hd_o0 tf_o0 cf_o0 g o_53 ++ (offS ad_55 tp_o8 hd_o8 tf_o8 cf_o8 g o_56))) H_61 := hP
  have hD : va_D A ([(a_r_, .inl (g 0, n_r_, .inl r__59)), (a_q_60, .inr (1, [.null, .int 0, .int 0, .int 0]))] ++ (offS ad_52 tp_o0 hd_o0 tf_o0 cf_o0 g o_53 ++ (offS ad_55 tp_o8 hd_o8 tf_o8 cf_o8 g o_56))) := hD
  refine W.widen (k := 392) (n := 22062) (by omega) (by omega) ?_
  refine lv_dup hx hb dL_isProgram_108 rfl ?_
  refine lv_aload_n hx hb dL_isProgram_109 rfl (lv_at hl 4 rfl) ?_
  refine lv_iconst (v := 3) hx hb dL_isProgram_110 (by decide) ?_
  obtain ⟨hPs, hDs⟩ := seg_call (segs := [[(a_r_, .inl (g 0, n_r_, .inl r__59))], [(a_q_60, .inr (1, [.null, .int 0, .int 0, .int 0]))], offS ad_52 tp_o0 hd_o0 tf_o0 cf_o0 g o_53, offS ad_55 tp_o8 hd_o8 tf_o8 cf_o8 g o_56]) [[(a_q_60, .inr (1, [.null, .int 0, .int 0, .int 0]))], offS ad_52 tp_o0 hd_o0 tf_o0 cf_o0 g o_53, offS ad_55 tp_o8 hd_o8 tf_o8 cf_o8 g o_56] [[(a_r_, .inl (g 0, n_r_, .inl r__59))]] 4 [1, 2, 3, 0] rfl rfl (by decide) hP hD
  have hPc : va_P (dC, dI) vwCl [(a_r_, .inl (g 0, n_r_, .inl r__59))] H_61 := P_r hPs
  have hDc : va_D A [(a_r_, .inl (g 0, n_r_, .inl r__59))] := D_r hDs
  have hFc : ∀ q, va_A [(a_r_, .inl (g 0, n_r_, .inl r__59))] H_61.size q → A q := A_all hDc hA hS.1
  refine va_calli (va_runS (As := [.ref a_r_, .int 3]) (rest := [.ref a_q_60, .ref a_q_60]) ⟨hx, hb, hml, hown, hts⟩ (c_L_draw l hlf dC dI g (a_r_ := a_r_) (n_r_ := n_r_) (r_ := r__59) (many := 3) (hw := hw) (sz := H_61.size)) (va_cwS 2 hts (gqS aw_2_215 aw_2_216 aw_1_0 aw_2_217) rfl rfl rfl (by decide +kernel) ⟨Nat.le_of_ble_eq_true rfl, Nat.le_of_ble_eq_true rfl⟩) ⟨PG_blind, PG_call hK hG hS hPc hDc hFc⟩ rfl rfl hl.1 rfl (lv_room (Nat.le_of_ble_eq_true rfl)) dL_isProgram_111 ⟨by rw [hrc]; omega, by rw [hrs]; omega⟩) hS (fun q _ h => hFc q h) hFc (fun r_62 u_62 t_62 H_62 L_62 ht_62 hvm_62 hw_62 hB_62 hz_62 hk_62 hS => ?_)
  obtain ⟨r__63, u_62⟩ := u_62
  have hw := hw_62
  rw [ht_62] at hB_62
  obtain ⟨hP1, hD1⟩ := hB_62
  obtain ⟨hP, hD⟩ := join_r hPs hDs hk_62 hFc hP1 hD1
  obtain ⟨hP, hD⟩ := seg_join [[(a_q_60, .inr (1, [.null, .int 0, .int 0, .int 0]))], offS ad_52 tp_o0 hd_o0 tf_o0 cf_o0 g o_53, offS ad_55 tp_o8 hd_o8 tf_o8 cf_o8 g o_56] [[(a_r_, .inl (g 0, n_r_, .inl r__63))]] [[(a_r_, .inl (g 0, n_r_, .inl r__63))], [(a_q_60, .inr (1, [.null, .int 0, .int 0, .int 0]))], offS ad_52 tp_o0 hd_o0 tf_o0 cf_o0 g o_53, offS ad_55 tp_o8 hd_o8 tf_o8 cf_o8 g o_56] 4 [3, 0, 1, 2] rfl rfl (by decide) hP hD
  have hP : va_P (dC, dI) vwCl ([(a_r_, .inl (g 0, n_r_, .inl r__63)), (a_q_60, .inr (1, [.null, .int 0, .int 0, .int 0]))] ++ (offS ad_52 tp_o0 hd_o0 tf_o0 cf_o0 g o_53 ++ (offS ad_55 tp_o8 hd_o8 tf_o8 cf_o8 g o_56))) H_62 := hP
  have hD : va_D A ([(a_r_, .inl (g 0, n_r_, .inl r__63)), (a_q_60, .inr (1, [.null, .int 0, .int 0, .int 0]))] ++ (offS ad_52 tp_o0 hd_o0 tf_o0 cf_o0 g o_53 ++ (offS ad_55 tp_o8 hd_o8 tf_o8 cf_o8 g o_56))) := hD
  refine W.widen (k := 392) (n := 22062) (by omega) (by omega) ?_
  refine W_abs (fun QM hQM => ?_)
  have JN124 : ∀ (sn_65 : Nat) (sf_66 : Nat → Int32) (as_64 : Nat) (has_64 : GSb sn_65 sf_66 as_64 A s) (H : Heap) (locs : List Loc), (wj_L_isProgram_124 n_r_ Q o_53 o_56 r_58 r__63) sn_65 sf_66 → va_P (dC, dI) vwCl ([(a_r_, .inl (g 0, n_r_, .inl r__63)), (a_q_60, .inr (1, [.null, .int 0, .int 0, .int 0]))] ++ (offS ad_52 tp_o0 hd_o0 tf_o0 cf_o0 g o_53 ++ (offS ad_55 tp_o8 hd_o8 tf_o8 cf_o8 g o_56))) H → va_D A ([(a_r_, .inl (g 0, n_r_, .inl r__63)), (a_q_60, .inr (1, [.null, .int 0, .int 0, .int 0]))] ++ (offS ad_52 tp_o0 hd_o0 tf_o0 cf_o0 g o_53 ++ (offS ad_55 tp_o8 hd_o8 tf_o8 cf_o8 g o_56))) → va_S A s.heap H locs → ∀ (ls : Array Slot), lv_has ls 12 [(0, .ref a_r_), (1, .ref t_o0), (2, .ref t_o8), (4, .int r_58)] → W p l e (headSpec wqL_isProgram ({ frames := 17, cells := 7020, slots := 298337, locals := 274 })).room s m ([.ref a_r_] : List Value).toArray below meth c H locs 392 22062 QM (F0 m 124 ls [.ref as_64, .ref a_q_60, .ref a_q_60]) := by
    intro sn_65 sf_66 as_64 has_64 H locs hw hP hD hS ls hl
    obtain ⟨hPs, hDs⟩ := seg_call (segs := [[(a_r_, .inl (g 0, n_r_, .inl r__63))], [(a_q_60, .inr (1, [.null, .int 0, .int 0, .int 0]))], offS ad_52 tp_o0 hd_o0 tf_o0 cf_o0 g o_53, offS ad_55 tp_o8 hd_o8 tf_o8 cf_o8 g o_56]) [[(a_r_, .inl (g 0, n_r_, .inl r__63))], offS ad_52 tp_o0 hd_o0 tf_o0 cf_o0 g o_53, offS ad_55 tp_o8 hd_o8 tf_o8 cf_o8 g o_56] [[(a_q_60, .inr (1, [.null, .int 0, .int 0, .int 0]))]] 4 [0, 2, 3, 1] rfl rfl (by decide) hP hD
    have hPc : va_P (dC, dI) vwCl [(a_q_60, .inr (1, [.null, .int 0, .int 0, .int 0]))] H := P_r hPs
    have hDc : va_D A [(a_q_60, .inr (1, [.null, .int 0, .int 0, .int 0]))] := D_r hDs
    have hFc : ∀ q, va_A [(a_q_60, .inr (1, [.null, .int 0, .int 0, .int 0]))] H.size q → A q := A_all hDc hA hS.1
    refine va_callv (va_runI (As := [.ref as_64]) (rest := [.ref a_q_60]) ⟨hx, hb, hml, hown, hts⟩ (c_J4_init_a7421 l dC dI g (a_this_ := a_q_60) (a_s_ := as_64) (s__n := sn_65) (s__f := sf_66) (hw := hw) (sz := H.size)) (cwI 1 hts (gq0 aw_6_116) rfl rfl rfl hiniJ4 hml278 himJ4_init_a7421 rfl (by decide +kernel) ⟨Nat.le_of_ble_eq_true rfl, Nat.le_of_ble_eq_true rfl⟩) ⟨PX_blind (GSb_go sn_65 sf_66 as_64), PX_call (GSb_go sn_65 sf_66 as_64) hK hG hS hPc hDc hFc has_64⟩ rfl rfl hl.1 rfl (lv_room (Nat.le_of_ble_eq_true rfl)) dL_isProgram_124 ⟨by rw [hrc]; omega, by rw [hrs]; omega⟩) hS (fun q _ h => hFc q h) hFc (fun u_68 t_68 H_68 L_68 ht_68 hvm_68 hw_68 hB_68 hz_68 hk_68 hS => ?_)
    obtain ⟨v_69, c_70, f_71, k_72, u_68⟩ := u_68
    have hw := hw_68
    rw [ht_68] at hB_68
    obtain ⟨hP1, hD1⟩ := hB_68
    obtain ⟨hP, hD⟩ := join_r hPs hDs hk_68 hFc hP1 hD1
    obtain ⟨hP, hD⟩ := seg_join [[(a_r_, .inl (g 0, n_r_, .inl r__63))], offS ad_52 tp_o0 hd_o0 tf_o0 cf_o0 g o_53, offS ad_55 tp_o8 hd_o8 tf_o8 cf_o8 g o_56] [[(a_q_60, .inr (1, [.ref v_69, .int 0, .int 0, .int k_72]))], [(v_69, .inl (g 2, c_70, .inl f_71))]] [[(a_r_, .inl (g 0, n_r_, .inl r__63))], [(a_q_60, .inr (1, [.ref v_69, .int 0, .int 0, .int k_72]))], [(v_69, .inl (g 2, c_70, .inl f_71))], offS ad_52 tp_o0 hd_o0 tf_o0 cf_o0 g o_53, offS ad_55 tp_o8 hd_o8 tf_o8 cf_o8 g o_56] 5 [0, 3, 4, 1, 2] rfl rfl (by decide) hP hD
    have hP : va_P (dC, dI) vwCl ([(a_r_, .inl (g 0, n_r_, .inl r__63)), (a_q_60, .inr (1, [.ref v_69, .int 0, .int 0, .int k_72])), (v_69, .inl (g 2, c_70, .inl f_71))] ++ (offS ad_52 tp_o0 hd_o0 tf_o0 cf_o0 g o_53 ++ (offS ad_55 tp_o8 hd_o8 tf_o8 cf_o8 g o_56))) H_68 := hP
    have hD : va_D A ([(a_r_, .inl (g 0, n_r_, .inl r__63)), (a_q_60, .inr (1, [.ref v_69, .int 0, .int 0, .int k_72])), (v_69, .inl (g 2, c_70, .inl f_71))] ++ (offS ad_52 tp_o0 hd_o0 tf_o0 cf_o0 g o_53 ++ (offS ad_55 tp_o8 hd_o8 tf_o8 cf_o8 g o_56))) := hD
    refine W.widen (k := 394) (n := 26062) (by omega) (by omega) ?_
    refine lv_astore (lv' := [(5, .ref a_q_60), (0, .ref a_r_), (1, .ref t_o0), (2, .ref t_o8), (4, .int r_58)]) hx hb dL_isProgram_127 hl (by decide) rfl (fun ls hl => ?_)
    refine lv_iload hx hb dL_isProgram_129 (lv_at hl 4 rfl) ?_
    obtain ⟨n_77, en_77, ln_77, hw⟩ := hw
    refine va_newqA hx hb hown hcl281 (ao_3 hG) hK hP hD hS hA (by rw [en_77]; exact nI_pos (by omega)) (N' := n_77) (by rw [en_77]; exact nI_clamp (by omega)) (show n_77 * 4 ≤ 536870912 by omega) (by rw [hrc]; omega) (by rw [hrs]; omega) dL_isProgram_131 (fun a_q_73 H_74 hP hD hS => ?_)
    have hP : va_P (dC, dI) vwCl (([(a_r_, .inl (g 0, n_r_, .inl r__63)), (a_q_60, .inr (1, [.ref v_69, .int 0, .int 0, .int k_72])), (v_69, .inl (g 2, c_70, .inl f_71))] ++ (offS ad_52 tp_o0 hd_o0 tf_o0 cf_o0 g o_53 ++ (offS ad_55 tp_o8 hd_o8 tf_o8 cf_o8 g o_56))) ++ wcat [[(a_q_73, .inl (g 3, n_77, .inr (.inr (.inr (.inr (rowf 0 (fun _ => 0)))))))], RWs 0 (fun _ => 0) (g 0) (fun _ => 0) (fun _ _ => 0)]) H_74 := hP
    have hD : va_D A (([(a_r_, .inl (g 0, n_r_, .inl r__63)), (a_q_60, .inr (1, [.ref v_69, .int 0, .int 0, .int k_72])), (v_69, .inl (g 2, c_70, .inl f_71))] ++ (offS ad_52 tp_o0 hd_o0 tf_o0 cf_o0 g o_53 ++ (offS ad_55 tp_o8 hd_o8 tf_o8 cf_o8 g o_56))) ++ wcat [[(a_q_73, .inl (g 3, n_77, .inr (.inr (.inr (.inr (rowf 0 (fun _ => 0)))))))], RWs 0 (fun _ => 0) (g 0) (fun _ => 0) (fun _ _ => 0)]) := hD
    obtain ⟨hP, hD⟩ := seg_join [[(a_r_, .inl (g 0, n_r_, .inl r__63))], [(a_q_60, .inr (1, [.ref v_69, .int 0, .int 0, .int k_72]))], [(v_69, .inl (g 2, c_70, .inl f_71))], offS ad_52 tp_o0 hd_o0 tf_o0 cf_o0 g o_53, offS ad_55 tp_o8 hd_o8 tf_o8 cf_o8 g o_56] [[(a_q_73, .inl (g 3, n_77, .inr (.inr (.inr (.inr (rowf 0 (fun _ => 0)))))))], RWs 0 (fun _ => 0) (g 0) (fun _ => 0) (fun _ _ => 0)] [[(a_r_, .inl (g 0, n_r_, .inl r__63))], [(a_q_60, .inr (1, [.ref v_69, .int 0, .int 0, .int k_72]))], [(v_69, .inl (g 2, c_70, .inl f_71))], [(a_q_73, .inl (g 3, n_77, .inr (.inr (.inr (.inr (rowf 0 (fun _ => 0)))))))], RWs 0 (fun _ => 0) (g 0) (fun _ => 0) (fun _ _ => 0), offS ad_52 tp_o0 hd_o0 tf_o0 cf_o0 g o_53, offS ad_55 tp_o8 hd_o8 tf_o8 cf_o8 g o_56] 7 [0, 1, 2, 5, 6, 3, 4] rfl rfl (by decide) hP hD
    have hP : va_P (dC, dI) vwCl ([(a_r_, .inl (g 0, n_r_, .inl r__63)), (a_q_60, .inr (1, [.ref v_69, .int 0, .int 0, .int k_72])), (v_69, .inl (g 2, c_70, .inl f_71)), (a_q_73, .inl (g 3, n_77, .inr (.inr (.inr (.inr (rowf 0 (fun _ => 0)))))))] ++ (RWs 0 (fun _ => 0) (g 0) (fun _ => 0) (fun _ _ => 0) ++ (offS ad_52 tp_o0 hd_o0 tf_o0 cf_o0 g o_53 ++ (offS ad_55 tp_o8 hd_o8 tf_o8 cf_o8 g o_56)))) H_74 := hP
    have hD : va_D A ([(a_r_, .inl (g 0, n_r_, .inl r__63)), (a_q_60, .inr (1, [.ref v_69, .int 0, .int 0, .int k_72])), (v_69, .inl (g 2, c_70, .inl f_71)), (a_q_73, .inl (g 3, n_77, .inr (.inr (.inr (.inr (rowf 0 (fun _ => 0)))))))] ++ (RWs 0 (fun _ => 0) (g 0) (fun _ => 0) (fun _ _ => 0) ++ (offS ad_52 tp_o0 hd_o0 tf_o0 cf_o0 g o_53 ++ (offS ad_55 tp_o8 hd_o8 tf_o8 cf_o8 g o_56)))) := hD
    refine W.widen (k := 395) (n := 26068) (by omega) (by omega) ?_
    refine lv_astore (lv' := [(6, .ref a_q_73), (5, .ref a_q_60), (0, .ref a_r_), (1, .ref t_o0), (2, .ref t_o8), (4, .int r_58)]) hx hb dL_isProgram_134 hl (by decide) rfl (fun ls hl => ?_)
    refine lv_iload hx hb dL_isProgram_136 (lv_at hl 5 rfl) ?_
    obtain ⟨n_81, en_81, ln_81, hw⟩ := hw
    refine va_newa (atype := .int) (a0 := (n_81, .inl (fun _ => 0))) hx hb hnaint rfl hK hP hD hS hA (fun _ => rfl) (by rw [en_81]; exact nI_pos (by omega)) (N' := n_81) (by rw [en_81]; exact nI_clamp (by omega)) (show n_81 * 4 ≤ 536870912 by omega) (by rw [hrc]; omega) (by rw [hrs]; omega) dL_isProgram_138 (fun a_q_78 cA_80 H_79 hK9 hP hD hS => ?_)
    obtain rfl : g 0 = cA_80 := K_one hK9 0 5 rfl rfl
    obtain ⟨hP, hD⟩ := seg_join [[(a_r_, .inl (g 0, n_r_, .inl r__63))], [(a_q_60, .inr (1, [.ref v_69, .int 0, .int 0, .int k_72]))], [(v_69, .inl (g 2, c_70, .inl f_71))], [(a_q_73, .inl (g 3, n_77, .inr (.inr (.inr (.inr (rowf 0 (fun _ => 0)))))))], RWs 0 (fun _ => 0) (g 0) (fun _ => 0) (fun _ _ => 0), offS ad_52 tp_o0 hd_o0 tf_o0 cf_o0 g o_53, offS ad_55 tp_o8 hd_o8 tf_o8 cf_o8 g o_56] [[(a_q_78, .inl (g 0, n_81, .inl (fun _ => 0)))]] [[(a_r_, .inl (g 0, n_r_, .inl r__63))], [(a_q_60, .inr (1, [.ref v_69, .int 0, .int 0, .int k_72]))], [(v_69, .inl (g 2, c_70, .inl f_71))], [(a_q_73, .inl (g 3, n_77, .inr (.inr (.inr (.inr (rowf 0 (fun _ => 0)))))))], [(a_q_78, .inl (g 0, n_81, .inl (fun _ => 0)))], RWs 0 (fun _ => 0) (g 0) (fun _ => 0) (fun _ _ => 0), offS ad_52 tp_o0 hd_o0 tf_o0 cf_o0 g o_53, offS ad_55 tp_o8 hd_o8 tf_o8 cf_o8 g o_56] 8 [0, 1, 2, 3, 7, 4, 5, 6] rfl rfl (by decide) hP hD
    have hP : va_P (dC, dI) vwCl ([(a_r_, .inl (g 0, n_r_, .inl r__63)), (a_q_60, .inr (1, [.ref v_69, .int 0, .int 0, .int k_72])), (v_69, .inl (g 2, c_70, .inl f_71)), (a_q_73, .inl (g 3, n_77, .inr (.inr (.inr (.inr (rowf 0 (fun _ => 0))))))), (a_q_78, .inl (g 0, n_81, .inl (fun _ => 0)))] ++ (RWs 0 (fun _ => 0) (g 0) (fun _ => 0) (fun _ _ => 0) ++ (offS ad_52 tp_o0 hd_o0 tf_o0 cf_o0 g o_53 ++ (offS ad_55 tp_o8 hd_o8 tf_o8 cf_o8 g o_56)))) H_79 := hP
    have hD : va_D A ([(a_r_, .inl (g 0, n_r_, .inl r__63)), (a_q_60, .inr (1, [.ref v_69, .int 0, .int 0, .int k_72])), (v_69, .inl (g 2, c_70, .inl f_71)), (a_q_73, .inl (g 3, n_77, .inr (.inr (.inr (.inr (rowf 0 (fun _ => 0))))))), (a_q_78, .inl (g 0, n_81, .inl (fun _ => 0)))] ++ (RWs 0 (fun _ => 0) (g 0) (fun _ => 0) (fun _ _ => 0) ++ (offS ad_52 tp_o0 hd_o0 tf_o0 cf_o0 g o_53 ++ (offS ad_55 tp_o8 hd_o8 tf_o8 cf_o8 g o_56)))) := hD
    refine W.widen (k := 396) (n := 26074) (by omega) (by omega) ?_
    refine lv_astore (lv' := [(7, .ref a_q_78), (6, .ref a_q_73), (5, .ref a_q_60), (0, .ref a_r_), (1, .ref t_o0), (2, .ref t_o8), (4, .int r_58)]) hx hb dL_isProgram_140 hl (by decide) rfl (fun ls hl => ?_)
    refine lv_iconst (v := 0) hx hb dL_isProgram_142 (by decide) ?_
    refine lv_istore (lv' := [(8, .int 0), (7, .ref a_q_78), (6, .ref a_q_73), (5, .ref a_q_60), (0, .ref a_r_), (1, .ref t_o0), (2, .ref t_o8), (4, .int r_58)]) hx hb dL_isProgram_143 hl (by decide) rfl (fun ls hl => ?_)
    have EX145_188 : ∀ (r__93 : Nat → Int32) (c_94 : Nat) (f_95 : Nat → Int32) (k_96 : Int32) (q138_97 : Nat → Int32) (m_98 : Nat) (ln_99 : Nat → Nat) (rc_100 : Nat → Nat → Int32) (v_101 : Nat) (rr_102 : Nat → Nat) (H : Heap) (locs : List Loc), (wx_L_isProgram_145_188 Q o_53 o_56 r_58 n_77 n_81) r__93 c_94 f_95 k_96 q138_97 m_98 ln_99 rc_100 → va_P (dC, dI) vwCl ([(a_r_, .inl (g 0, n_r_, .inl r__93)), (a_q_60, .inr (1, [.ref v_101, .int 0, .int 0, .int k_96])), (v_101, .inl (g 2, c_94, .inl f_95)), (a_q_73, .inl (g 3, n_77, .inr (.inr (.inr (.inr (rowf m_98 rr_102)))))), (a_q_78, .inl (g 0, n_81, .inl q138_97))] ++ (RWs m_98 rr_102 (g 0) ln_99 rc_100 ++ (offS ad_52 tp_o0 hd_o0 tf_o0 cf_o0 g o_53 ++ (offS ad_55 tp_o8 hd_o8 tf_o8 cf_o8 g o_56)))) H → va_D A ([(a_r_, .inl (g 0, n_r_, .inl r__93)), (a_q_60, .inr (1, [.ref v_101, .int 0, .int 0, .int k_96])), (v_101, .inl (g 2, c_94, .inl f_95)), (a_q_73, .inl (g 3, n_77, .inr (.inr (.inr (.inr (rowf m_98 rr_102)))))), (a_q_78, .inl (g 0, n_81, .inl q138_97))] ++ (RWs m_98 rr_102 (g 0) ln_99 rc_100 ++ (offS ad_52 tp_o0 hd_o0 tf_o0 cf_o0 g o_53 ++ (offS ad_55 tp_o8 hd_o8 tf_o8 cf_o8 g o_56)))) → va_S A s.heap H locs → ∀ (ls : Array Slot), lv_has ls 12 [(1, .ref t_o0), (2, .ref t_o8), (4, .int r_58), (5, .ref a_q_60), (6, .ref a_q_73), (7, .ref a_q_78)] → W p l e (headSpec wqL_isProgram ({ frames := 17, cells := 7020, slots := 298337, locals := 274 })).room s m ([.ref a_r_] : List Value).toArray below meth c H locs 540 254224 QM (F0 m 188 ls []) := by
      intro r__93 c_94 f_95 k_96 q138_97 m_98 ln_99 rc_100 v_101 rr_102 H locs hw hP hD hS ls hl
      refine lv_aload hx hb dL_isProgram_188 (lv_at hl 3 rfl) ?_
      obtain ⟨hPs, hDs⟩ := seg_call (segs := [[(a_r_, .inl (g 0, n_r_, .inl r__93))], [(a_q_60, .inr (1, [.ref v_101, .int 0, .int 0, .int k_96]))], [(v_101, .inl (g 2, c_94, .inl f_95))], [(a_q_73, .inl (g 3, n_77, .inr (.inr (.inr (.inr (rowf m_98 rr_102))))))], [(a_q_78, .inl (g 0, n_81, .inl q138_97))], RWs m_98 rr_102 (g 0) ln_99 rc_100, offS ad_52 tp_o0 hd_o0 tf_o0 cf_o0 g o_53, offS ad_55 tp_o8 hd_o8 tf_o8 cf_o8 g o_56]) [[(a_r_, .inl (g 0, n_r_, .inl r__93))], [(a_q_73, .inl (g 3, n_77, .inr (.inr (.inr (.inr (rowf m_98 rr_102))))))], [(a_q_78, .inl (g 0, n_81, .inl q138_97))], RWs m_98 rr_102 (g 0) ln_99 rc_100, offS ad_52 tp_o0 hd_o0 tf_o0 cf_o0 g o_53, offS ad_55 tp_o8 hd_o8 tf_o8 cf_o8 g o_56] [[(a_q_60, .inr (1, [.ref v_101, .int 0, .int 0, .int k_96]))], [(v_101, .inl (g 2, c_94, .inl f_95))]] 8 [0, 3, 4, 5, 6, 7, 1, 2] rfl rfl (by decide) hP hD
      have hPc : va_P (dC, dI) vwCl [(a_q_60, .inr (1, [.ref v_101, .int 0, .int 0, .int k_96])), (v_101, .inl (g 2, c_94, .inl f_95))] H := P_r hPs
      have hDc : va_D A [(a_q_60, .inr (1, [.ref v_101, .int 0, .int 0, .int k_96])), (v_101, .inl (g 2, c_94, .inl f_95))] := D_r hDs
      have hFc : ∀ q, va_A [(a_q_60, .inr (1, [.ref v_101, .int 0, .int 0, .int k_96])), (v_101, .inl (g 2, c_94, .inl f_95))] H.size q → A q := A_all hDc hA hS.1
      refine va_calli (va_runV (As := []) (rest := []) ⟨hx, hb, hml, hown, hts⟩ (c_J4_length_8abf5 l dC dI g (a_this_ := a_q_60) (v_this_ := v_101) (c_this_ := c_94) (f_this_ := f_95) (k_this_ := k_96) (hw := hw) (sz := H.size)) (cwV 0 hts (gqV aw_7_9 aw_7_10 aw_7_11 aw_1_26 aw_7_12) rfl rfl rfl (by decide +kernel) ⟨Nat.le_of_ble_eq_true rfl, Nat.le_of_ble_eq_true rfl⟩) ⟨PG_blind, va_recv hK hP (ci := 1) (q0 := 1) rfl rfl, PG_call hK hG hS hPc hDc hFc⟩ rfl rfl hl.1 rfl (lv_room (Nat.le_of_ble_eq_true rfl)) dL_isProgram_190 ⟨by rw [hrc]; omega, by rw [hrs]; omega⟩) hS (fun q _ h => hFc q h) hFc (fun r_104 u_104 t_104 H_104 L_104 ht_104 hvm_104 hw_104 hB_104 hz_104 hk_104 hS => ?_)
      have hw := hw_104
      rw [ht_104] at hB_104
      obtain ⟨hP1, hD1⟩ := hB_104
      obtain ⟨hP, hD⟩ := join_r hPs hDs hk_104 hFc hP1 hD1
      obtain ⟨hP, hD⟩ := seg_join [[(a_r_, .inl (g 0, n_r_, .inl r__93))], [(a_q_73, .inl (g 3, n_77, .inr (.inr (.inr (.inr (rowf m_98 rr_102))))))], [(a_q_78, .inl (g 0, n_81, .inl q138_97))], RWs m_98 rr_102 (g 0) ln_99 rc_100, offS ad_52 tp_o0 hd_o0 tf_o0 cf_o0 g o_53, offS ad_55 tp_o8 hd_o8 tf_o8 cf_o8 g o_56] [[(a_q_60, .inr (1, [.ref v_101, .int 0, .int 0, .int k_96]))], [(v_101, .inl (g 2, c_94, .inl f_95))]] [[(a_r_, .inl (g 0, n_r_, .inl r__93))], [(a_q_60, .inr (1, [.ref v_101, .int 0, .int 0, .int k_96]))], [(v_101, .inl (g 2, c_94, .inl f_95))], [(a_q_73, .inl (g 3, n_77, .inr (.inr (.inr (.inr (rowf m_98 rr_102))))))], [(a_q_78, .inl (g 0, n_81, .inl q138_97))], RWs m_98 rr_102 (g 0) ln_99 rc_100, offS ad_52 tp_o0 hd_o0 tf_o0 cf_o0 g o_53, offS ad_55 tp_o8 hd_o8 tf_o8 cf_o8 g o_56] 8 [0, 6, 7, 1, 2, 3, 4, 5] rfl rfl (by decide) hP hD
      have hP : va_P (dC, dI) vwCl ([(a_r_, .inl (g 0, n_r_, .inl r__93)), (a_q_60, .inr (1, [.ref v_101, .int 0, .int 0, .int k_96])), (v_101, .inl (g 2, c_94, .inl f_95)), (a_q_73, .inl (g 3, n_77, .inr (.inr (.inr (.inr (rowf m_98 rr_102)))))), (a_q_78, .inl (g 0, n_81, .inl q138_97))] ++ (RWs m_98 rr_102 (g 0) ln_99 rc_100 ++ (offS ad_52 tp_o0 hd_o0 tf_o0 cf_o0 g o_53 ++ (offS ad_55 tp_o8 hd_o8 tf_o8 cf_o8 g o_56)))) H_104 := hP
      have hD : va_D A ([(a_r_, .inl (g 0, n_r_, .inl r__93)), (a_q_60, .inr (1, [.ref v_101, .int 0, .int 0, .int k_96])), (v_101, .inl (g 2, c_94, .inl f_95)), (a_q_73, .inl (g 3, n_77, .inr (.inr (.inr (.inr (rowf m_98 rr_102)))))), (a_q_78, .inl (g 0, n_81, .inl q138_97))] ++ (RWs m_98 rr_102 (g 0) ln_99 rc_100 ++ (offS ad_52 tp_o0 hd_o0 tf_o0 cf_o0 g o_53 ++ (offS ad_55 tp_o8 hd_o8 tf_o8 cf_o8 g o_56)))) := hD
      refine W.widen (k := 540) (n := 254224) (by omega) (by omega) ?_
      refine lv_sipush (v := 160) hx hb dL_isProgram_193 (by decide) ?_
      refine lv_icmp_le (tgt := 201) hx hb dL_isProgram_196 (by decide) (fun c_105 => ?_) (fun c_105 => ?_)
      · have hw := hw.1 c_105
        refine lv_aload_n hx hb dL_isProgram_201 rfl (lv_at hl 0 rfl) ?_
        refine lv_aload hx hb dL_isProgram_202 (lv_at hl 3 rfl) ?_
        obtain ⟨hPs, hDs⟩ := seg_call (segs := [[(a_r_, .inl (g 0, n_r_, .inl r__93))], [(a_q_60, .inr (1, [.ref v_101, .int 0, .int 0, .int k_96]))], [(v_101, .inl (g 2, c_94, .inl f_95))], [(a_q_73, .inl (g 3, n_77, .inr (.inr (.inr (.inr (rowf m_98 rr_102))))))], [(a_q_78, .inl (g 0, n_81, .inl q138_97))], RWs m_98 rr_102 (g 0) ln_99 rc_100, offS ad_52 tp_o0 hd_o0 tf_o0 cf_o0 g o_53, offS ad_55 tp_o8 hd_o8 tf_o8 cf_o8 g o_56]) [[(a_r_, .inl (g 0, n_r_, .inl r__93))], [(a_q_73, .inl (g 3, n_77, .inr (.inr (.inr (.inr (rowf m_98 rr_102))))))], [(a_q_78, .inl (g 0, n_81, .inl q138_97))], RWs m_98 rr_102 (g 0) ln_99 rc_100, offS ad_55 tp_o8 hd_o8 tf_o8 cf_o8 g o_56] [[(a_q_60, .inr (1, [.ref v_101, .int 0, .int 0, .int k_96]))], [(v_101, .inl (g 2, c_94, .inl f_95))], offS ad_52 tp_o0 hd_o0 tf_o0 cf_o0 g o_53] 8 [0, 3, 4, 5, 7, 1, 2, 6] rfl rfl (by decide) hP hD
        have hPc : va_P (dC, dI) vwCl ([(a_q_60, .inr (1, [.ref v_101, .int 0, .int 0, .int k_96])), (v_101, .inl (g 2, c_94, .inl f_95))] ++ (offS ad_52 tp_o0 hd_o0 tf_o0 cf_o0 g o_53)) H_104 := P_r hPs
        have hDc : va_D A ([(a_q_60, .inr (1, [.ref v_101, .int 0, .int 0, .int k_96])), (v_101, .inl (g 2, c_94, .inl f_95))] ++ (offS ad_52 tp_o0 hd_o0 tf_o0 cf_o0 g o_53)) := D_r hDs
        have hFc : ∀ q, va_A ([(a_q_60, .inr (1, [.ref v_101, .int 0, .int 0, .int k_96])), (v_101, .inl (g 2, c_94, .inl f_95))] ++ (offS ad_52 tp_o0 hd_o0 tf_o0 cf_o0 g o_53)) H_104.size q → A q := A_all hDc hA hS.1
        refine va_callv (va_runS (As := [.ref t_o0, .ref a_q_60]) (rest := []) ⟨hx, hb, hml, hown, hts⟩ (c_L_says_b l hlf dC dI g (tp_p_ := tp_o0) (hd_p_ := hd_o0) (tf_p_ := tf_o0) (cf_p_ := cf_o0) (htf_p_ := htf_o0) (hcf_p_ := hcf_o0) (a_p_ := ad_52) (t_p_ := t_o0) (h_p_ := had_52) (o_p_ := o_53) (a_text := a_q_60) (v_text := v_101) (c_text := c_94) (f_text := f_95) (k_text := k_96) (hw := hw) (sz := H_104.size)) (va_cwS 2 hts (gqS aw_7_132 aw_7_133 aw_1_0 aw_7_134) rfl rfl rfl (by decide +kernel) ⟨Nat.le_of_ble_eq_true rfl, Nat.le_of_ble_eq_true rfl⟩) ⟨PG_blind, PG_call hK hG hS hPc hDc hFc⟩ rfl rfl hl.1 rfl (lv_room (Nat.le_of_ble_eq_true rfl)) dL_isProgram_204 ⟨by rw [hrc]; omega, by rw [hrs]; omega⟩) hS (fun q _ h => hFc q h) hFc (fun u_107 t_107 H_107 L_107 ht_107 hvm_107 hw_107 hB_107 hz_107 hk_107 hS => ?_)
        obtain ⟨ad_108, o_109, u_107⟩ := u_107
        obtain ⟨hw, had_108⟩ := hw_107
        rw [ht_107] at hB_107
        obtain ⟨hP1, hD1⟩ := hB_107
        obtain ⟨hP, hD⟩ := join_r hPs hDs hk_107 hFc hP1 hD1
        obtain ⟨hP, hD⟩ := seg_join [[(a_r_, .inl (g 0, n_r_, .inl r__93))], [(a_q_73, .inl (g 3, n_77, .inr (.inr (.inr (.inr (rowf m_98 rr_102))))))], [(a_q_78, .inl (g 0, n_81, .inl q138_97))], RWs m_98 rr_102 (g 0) ln_99 rc_100, offS ad_55 tp_o8 hd_o8 tf_o8 cf_o8 g o_56] [[(a_q_60, .inr (1, [.ref v_101, .int 0, .int 0, .int k_96]))], [(v_101, .inl (g 2, c_94, .inl f_95))], offS ad_108 tp_o0 hd_o0 tf_o0 cf_o0 g o_109] [[(a_r_, .inl (g 0, n_r_, .inl r__93))], [(a_q_60, .inr (1, [.ref v_101, .int 0, .int 0, .int k_96]))], [(v_101, .inl (g 2, c_94, .inl f_95))], [(a_q_73, .inl (g 3, n_77, .inr (.inr (.inr (.inr (rowf m_98 rr_102))))))], [(a_q_78, .inl (g 0, n_81, .inl q138_97))], RWs m_98 rr_102 (g 0) ln_99 rc_100, offS ad_108 tp_o0 hd_o0 tf_o0 cf_o0 g o_109, offS ad_55 tp_o8 hd_o8 tf_o8 cf_o8 g o_56] 8 [0, 5, 6, 1, 2, 3, 7, 4] rfl rfl (by decide) hP hD
        have hP : va_P (dC, dI) vwCl ([(a_r_, .inl (g 0, n_r_, .inl r__93)), (a_q_60, .inr (1, [.ref v_101, .int 0, .int 0, .int k_96])), (v_101, .inl (g 2, c_94, .inl f_95)), (a_q_73, .inl (g 3, n_77, .inr (.inr (.inr (.inr (rowf m_98 rr_102)))))), (a_q_78, .inl (g 0, n_81, .inl q138_97))] ++ (RWs m_98 rr_102 (g 0) ln_99 rc_100 ++ (offS ad_108 tp_o0 hd_o0 tf_o0 cf_o0 g o_109 ++ (offS ad_55 tp_o8 hd_o8 tf_o8 cf_o8 g o_56)))) H_107 := hP
        have hD : va_D A ([(a_r_, .inl (g 0, n_r_, .inl r__93)), (a_q_60, .inr (1, [.ref v_101, .int 0, .int 0, .int k_96])), (v_101, .inl (g 2, c_94, .inl f_95)), (a_q_73, .inl (g 3, n_77, .inr (.inr (.inr (.inr (rowf m_98 rr_102)))))), (a_q_78, .inl (g 0, n_81, .inl q138_97))] ++ (RWs m_98 rr_102 (g 0) ln_99 rc_100 ++ (offS ad_108 tp_o0 hd_o0 tf_o0 cf_o0 g o_109 ++ (offS ad_55 tp_o8 hd_o8 tf_o8 cf_o8 g o_56)))) := hD
        refine W.widen (k := 710) (n := 255244) (by omega) (by omega) ?_
        refine lv_bipush (v := 8) hx hb dL_isProgram_207 (by decide) ?_
        refine va_newqA hx hb hown hcl281 (ao_3 hG) hK hP hD hS hA (by decide) (N' := 8) (by decide) (show 8 * 4 ≤ 536870912 by omega) (by rw [hrc]; omega) (by rw [hrs]; omega) dL_isProgram_209 (fun a_q_110 H_111 hP hD hS => ?_)
        have hP : va_P (dC, dI) vwCl (([(a_r_, .inl (g 0, n_r_, .inl r__93)), (a_q_60, .inr (1, [.ref v_101, .int 0, .int 0, .int k_96])), (v_101, .inl (g 2, c_94, .inl f_95)), (a_q_73, .inl (g 3, n_77, .inr (.inr (.inr (.inr (rowf m_98 rr_102)))))), (a_q_78, .inl (g 0, n_81, .inl q138_97))] ++ (RWs m_98 rr_102 (g 0) ln_99 rc_100 ++ (offS ad_108 tp_o0 hd_o0 tf_o0 cf_o0 g o_109 ++ (offS ad_55 tp_o8 hd_o8 tf_o8 cf_o8 g o_56)))) ++ wcat [[(a_q_110, .inl (g 3, 8, .inr (.inr (.inr (.inr (rowf 0 (fun _ => 0)))))))], RWs 0 (fun _ => 0) (g 0) (fun _ => 0) (fun _ _ => 0)]) H_111 := hP
        have hD : va_D A (([(a_r_, .inl (g 0, n_r_, .inl r__93)), (a_q_60, .inr (1, [.ref v_101, .int 0, .int 0, .int k_96])), (v_101, .inl (g 2, c_94, .inl f_95)), (a_q_73, .inl (g 3, n_77, .inr (.inr (.inr (.inr (rowf m_98 rr_102)))))), (a_q_78, .inl (g 0, n_81, .inl q138_97))] ++ (RWs m_98 rr_102 (g 0) ln_99 rc_100 ++ (offS ad_108 tp_o0 hd_o0 tf_o0 cf_o0 g o_109 ++ (offS ad_55 tp_o8 hd_o8 tf_o8 cf_o8 g o_56)))) ++ wcat [[(a_q_110, .inl (g 3, 8, .inr (.inr (.inr (.inr (rowf 0 (fun _ => 0)))))))], RWs 0 (fun _ => 0) (g 0) (fun _ => 0) (fun _ _ => 0)]) := hD
        obtain ⟨hP, hD⟩ := seg_join [[(a_r_, .inl (g 0, n_r_, .inl r__93))], [(a_q_60, .inr (1, [.ref v_101, .int 0, .int 0, .int k_96]))], [(v_101, .inl (g 2, c_94, .inl f_95))], [(a_q_73, .inl (g 3, n_77, .inr (.inr (.inr (.inr (rowf m_98 rr_102))))))], [(a_q_78, .inl (g 0, n_81, .inl q138_97))], RWs m_98 rr_102 (g 0) ln_99 rc_100, offS ad_108 tp_o0 hd_o0 tf_o0 cf_o0 g o_109, offS ad_55 tp_o8 hd_o8 tf_o8 cf_o8 g o_56] [[(a_q_110, .inl (g 3, 8, .inr (.inr (.inr (.inr (rowf 0 (fun _ => 0)))))))], RWs 0 (fun _ => 0) (g 0) (fun _ => 0) (fun _ _ => 0)] [[(a_r_, .inl (g 0, n_r_, .inl r__93))], [(a_q_60, .inr (1, [.ref v_101, .int 0, .int 0, .int k_96]))], [(v_101, .inl (g 2, c_94, .inl f_95))], [(a_q_73, .inl (g 3, n_77, .inr (.inr (.inr (.inr (rowf m_98 rr_102))))))], [(a_q_78, .inl (g 0, n_81, .inl q138_97))], [(a_q_110, .inl (g 3, 8, .inr (.inr (.inr (.inr (rowf 0 (fun _ => 0)))))))], RWs m_98 rr_102 (g 0) ln_99 rc_100, RWs 0 (fun _ => 0) (g 0) (fun _ => 0) (fun _ _ => 0), offS ad_108 tp_o0 hd_o0 tf_o0 cf_o0 g o_109, offS ad_55 tp_o8 hd_o8 tf_o8 cf_o8 g o_56] 10 [0, 1, 2, 3, 4, 8, 5, 9, 6, 7] rfl rfl (by decide) hP hD
        have hP : va_P (dC, dI) vwCl ([(a_r_, .inl (g 0, n_r_, .inl r__93)), (a_q_60, .inr (1, [.ref v_101, .int 0, .int 0, .int k_96])), (v_101, .inl (g 2, c_94, .inl f_95)), (a_q_73, .inl (g 3, n_77, .inr (.inr (.inr (.inr (rowf m_98 rr_102)))))), (a_q_78, .inl (g 0, n_81, .inl q138_97)), (a_q_110, .inl (g 3, 8, .inr (.inr (.inr (.inr (rowf 0 (fun _ => 0)))))))] ++ (RWs m_98 rr_102 (g 0) ln_99 rc_100 ++ (RWs 0 (fun _ => 0) (g 0) (fun _ => 0) (fun _ _ => 0) ++ (offS ad_108 tp_o0 hd_o0 tf_o0 cf_o0 g o_109 ++ (offS ad_55 tp_o8 hd_o8 tf_o8 cf_o8 g o_56))))) H_111 := hP
        have hD : va_D A ([(a_r_, .inl (g 0, n_r_, .inl r__93)), (a_q_60, .inr (1, [.ref v_101, .int 0, .int 0, .int k_96])), (v_101, .inl (g 2, c_94, .inl f_95)), (a_q_73, .inl (g 3, n_77, .inr (.inr (.inr (.inr (rowf m_98 rr_102)))))), (a_q_78, .inl (g 0, n_81, .inl q138_97)), (a_q_110, .inl (g 3, 8, .inr (.inr (.inr (.inr (rowf 0 (fun _ => 0)))))))] ++ (RWs m_98 rr_102 (g 0) ln_99 rc_100 ++ (RWs 0 (fun _ => 0) (g 0) (fun _ => 0) (fun _ _ => 0) ++ (offS ad_108 tp_o0 hd_o0 tf_o0 cf_o0 g o_109 ++ (offS ad_55 tp_o8 hd_o8 tf_o8 cf_o8 g o_56))))) := hD
        refine W.widen (k := 711) (n := 255252) (by omega) (by omega) ?_
        refine lv_astore (lv' := [(8, .ref a_q_110), (1, .ref t_o0), (2, .ref t_o8), (4, .int r_58), (5, .ref a_q_60), (6, .ref a_q_73), (7, .ref a_q_78)]) hx hb dL_isProgram_212 hl (by decide) rfl (fun ls hl => ?_)
        refine lv_iconst (v := 0) hx hb dL_isProgram_214 (by decide) ?_
        refine lv_istore (lv' := [(9, .int 0), (8, .ref a_q_110), (1, .ref t_o0), (2, .ref t_o8), (4, .int r_58), (5, .ref a_q_60), (6, .ref a_q_73), (7, .ref a_q_78)]) hx hb dL_isProgram_215 hl (by decide) rfl (fun ls hl => ?_)
        have EX217_241 : ∀ (o_121 : OS) (m_122 : Nat) (ln_123 : Nat → Nat) (rc_124 : Nat → Nat → Int32) (ad_125 : Nat → Nat) (rr_126 : Nat → Nat) (had_125 : ad_125 0 = t_o0) (H : Heap) (locs : List Loc), (wx_L_isProgram_217_241 Q o_56 r_58 n_77 n_81 r__93 q138_97 m_98 ln_99 rc_100) o_121 m_122 ln_123 rc_124 → va_P (dC, dI) vwCl ([(a_r_, .inl (g 0, n_r_, .inl r__93)), (a_q_73, .inl (g 3, n_77, .inr (.inr (.inr (.inr (rowf m_98 rr_102)))))), (a_q_78, .inl (g 0, n_81, .inl q138_97)), (a_q_110, .inl (g 3, 8, .inr (.inr (.inr (.inr (rowf m_122 rr_126))))))] ++ (RWs m_98 rr_102 (g 0) ln_99 rc_100 ++ (RWs m_122 rr_126 (g 0) ln_123 rc_124 ++ (offS ad_125 tp_o0 hd_o0 tf_o0 cf_o0 g o_121 ++ (offS ad_55 tp_o8 hd_o8 tf_o8 cf_o8 g o_56))))) H → va_D A ([(a_r_, .inl (g 0, n_r_, .inl r__93)), (a_q_73, .inl (g 3, n_77, .inr (.inr (.inr (.inr (rowf m_98 rr_102)))))), (a_q_78, .inl (g 0, n_81, .inl q138_97)), (a_q_110, .inl (g 3, 8, .inr (.inr (.inr (.inr (rowf m_122 rr_126))))))] ++ (RWs m_98 rr_102 (g 0) ln_99 rc_100 ++ (RWs m_122 rr_126 (g 0) ln_123 rc_124 ++ (offS ad_125 tp_o0 hd_o0 tf_o0 cf_o0 g o_121 ++ (offS ad_55 tp_o8 hd_o8 tf_o8 cf_o8 g o_56))))) → va_S A s.heap H locs → ∀ (ls : Array Slot), lv_has ls 12 [(1, .ref t_o0), (2, .ref t_o8), (4, .int r_58), (6, .ref a_q_73), (7, .ref a_q_78), (8, .ref a_q_110)] → W p l e (headSpec wqL_isProgram ({ frames := 17, cells := 7020, slots := 298337, locals := 274 })).room s m ([.ref a_r_] : List Value).toArray below meth c H locs 2547 268014 QM (F0 m 241 ls []) := by
          intro o_121 m_122 ln_123 rc_124 ad_125 rr_126 had_125 H locs hw hP hD hS ls hl
          refine lv_iconst (v := (-1)) hx hb dL_isProgram_241 (by decide) ?_
          refine lv_istore (lv' := [(9, .int (-1)), (1, .ref t_o0), (2, .ref t_o8), (4, .int r_58), (6, .ref a_q_73), (7, .ref a_q_78), (8, .ref a_q_110)]) hx hb dL_isProgram_242 hl (by decide) rfl (fun ls hl => ?_)
          refine lv_iconst (v := 0) hx hb dL_isProgram_244 (by decide) ?_
          refine lv_istore (lv' := [(10, .int 0), (9, .int (-1)), (1, .ref t_o0), (2, .ref t_o8), (4, .int r_58), (6, .ref a_q_73), (7, .ref a_q_78), (8, .ref a_q_110)]) hx hb dL_isProgram_245 hl (by decide) rfl (fun ls hl => ?_)
          refine lv_iconst (v := 0) hx hb dL_isProgram_247 (by decide) ?_
          refine lv_istore (lv' := [(11, .int 0), (10, .int 0), (9, .int (-1)), (1, .ref t_o0), (2, .ref t_o8), (4, .int r_58), (6, .ref a_q_73), (7, .ref a_q_78), (8, .ref a_q_110)]) hx hb dL_isProgram_248 hl (by decide) rfl (fun ls hl => ?_)
          have EX250_328 : ∀ (v10_132 : Bool) (o_133 : OS) (v9_134 : Int32) (ad_135 : Nat → Nat) (had_135 : ad_135 0 = t_o8) (H : Heap) (locs : List Loc), (wx_L_isProgram_250_328 Q r_58 n_81 r__93 q138_97 o_121 m_122 ln_123 rc_124) v10_132 o_133 v9_134 → va_P (dC, dI) vwCl ([(a_r_, .inl (g 0, n_r_, .inl r__93)), (a_q_78, .inl (g 0, n_81, .inl q138_97)), (a_q_110, .inl (g 3, 8, .inr (.inr (.inr (.inr (rowf m_122 rr_126))))))] ++ (RWs m_98 rr_102 (g 0) ln_99 rc_100 ++ (RWs m_122 rr_126 (g 0) ln_123 rc_124 ++ (offS ad_125 tp_o0 hd_o0 tf_o0 cf_o0 g o_121 ++ (offS ad_135 tp_o8 hd_o8 tf_o8 cf_o8 g o_133))))) H → va_D A ([(a_r_, .inl (g 0, n_r_, .inl r__93)), (a_q_78, .inl (g 0, n_81, .inl q138_97)), (a_q_110, .inl (g 3, 8, .inr (.inr (.inr (.inr (rowf m_122 rr_126))))))] ++ (RWs m_98 rr_102 (g 0) ln_99 rc_100 ++ (RWs m_122 rr_126 (g 0) ln_123 rc_124 ++ (offS ad_125 tp_o0 hd_o0 tf_o0 cf_o0 g o_121 ++ (offS ad_135 tp_o8 hd_o8 tf_o8 cf_o8 g o_133))))) → va_S A s.heap H locs → ∀ (ls : Array Slot), lv_has ls 12 [(1, .ref t_o0), (2, .ref t_o8), (4, .int r_58), (7, .ref a_q_78), (8, .ref a_q_110), (9, .int v9_134), (10, .int (b2i v10_132))] → W p l e (headSpec wqL_isProgram ({ frames := 17, cells := 7020, slots := 298337, locals := 274 })).room s m ([.ref a_r_] : List Value).toArray below meth c H locs 3345 272795 QM (F0 m 328 ls []) := by
            intro v10_132 o_133 v9_134 ad_135 had_135 H locs hw hP hD hS ls hl
            refine lv_aload_n hx hb dL_isProgram_328 rfl (lv_at hl 0 rfl) ?_
            obtain ⟨hPs, hDs⟩ := seg_call (segs := [[(a_r_, .inl (g 0, n_r_, .inl r__93))], [(a_q_78, .inl (g 0, n_81, .inl q138_97))], [(a_q_110, .inl (g 3, 8, .inr (.inr (.inr (.inr (rowf m_122 rr_126))))))], RWs m_98 rr_102 (g 0) ln_99 rc_100, RWs m_122 rr_126 (g 0) ln_123 rc_124, offS ad_125 tp_o0 hd_o0 tf_o0 cf_o0 g o_121, offS ad_135 tp_o8 hd_o8 tf_o8 cf_o8 g o_133]) [[(a_r_, .inl (g 0, n_r_, .inl r__93))], [(a_q_78, .inl (g 0, n_81, .inl q138_97))], [(a_q_110, .inl (g 3, 8, .inr (.inr (.inr (.inr (rowf m_122 rr_126))))))], RWs m_98 rr_102 (g 0) ln_99 rc_100, RWs m_122 rr_126 (g 0) ln_123 rc_124, offS ad_135 tp_o8 hd_o8 tf_o8 cf_o8 g o_133] [offS ad_125 tp_o0 hd_o0 tf_o0 cf_o0 g o_121] 7 [0, 1, 2, 3, 4, 6, 5] rfl rfl (by decide) hP hD
            have hPc : va_P (dC, dI) vwCl (offS ad_125 tp_o0 hd_o0 tf_o0 cf_o0 g o_121) H := P_r hPs
            have hDc : va_D A (offS ad_125 tp_o0 hd_o0 tf_o0 cf_o0 g o_121) := D_r hDs
            have hFc : ∀ q, va_A (offS ad_125 tp_o0 hd_o0 tf_o0 cf_o0 g o_121) H.size q → A q := A_all hDc hA hS.1
            refine vx_calli (vx_runV (As := []) (rest := []) ⟨hx, hb, hml, hown, hts⟩ (p_errorKind l hlf dC dI g tp_o0 hd_o0 tf_o0 cf_o0 htf_o0 hcf_o0 ad_125 t_o0 had_125 o_121 (hw := hw) (sz := H.size)) (cwV 0 hts (gqV aw_7_176 aw_7_177 aw_7_178 aw_1_1 aw_7_179) rfl rfl rfl (by decide +kernel) ⟨Nat.le_of_ble_eq_true rfl, Nat.le_of_ble_eq_true rfl⟩) ⟨PG_blind, off_recv had_125 hK hPc, PG_call hK hG hS hPc hDc hFc⟩ rfl rfl hl.1 rfl (lv_room (Nat.le_of_ble_eq_true rfl)) dL_isProgram_329 ⟨by rw [hrc]; omega, by rw [hrs]; omega⟩) hS (fun q _ h => hFc q h) hFc (fun q _ h => hFc q h) (fun E ce q9 ux t H1 locs1 ht hvm hp9 hB9 hz hk hS9 hce hcv hcl => ?_) (fun r_136 u_136 t_136 H_136 L_136 ht_136 hvm_136 hw_136 hB_136 hz_136 hk_136 hS => ?_)
            · exact (hB9.1.1).elim
            obtain ⟨ad_137, o_138⟩ := u_136
            obtain ⟨hw, had_137⟩ := hw_136
            rw [ht_136] at hB_136
            obtain ⟨hP1, hD1⟩ := hB_136
            obtain ⟨hP, hD⟩ := join_r hPs hDs hk_136 hFc hP1 hD1
            obtain ⟨hP, hD⟩ := seg_join [[(a_r_, .inl (g 0, n_r_, .inl r__93))], [(a_q_78, .inl (g 0, n_81, .inl q138_97))], [(a_q_110, .inl (g 3, 8, .inr (.inr (.inr (.inr (rowf m_122 rr_126))))))], RWs m_98 rr_102 (g 0) ln_99 rc_100, RWs m_122 rr_126 (g 0) ln_123 rc_124, offS ad_135 tp_o8 hd_o8 tf_o8 cf_o8 g o_133] [offS ad_137 tp_o0 hd_o0 tf_o0 cf_o0 g o_138] [[(a_r_, .inl (g 0, n_r_, .inl r__93))], [(a_q_78, .inl (g 0, n_81, .inl q138_97))], [(a_q_110, .inl (g 3, 8, .inr (.inr (.inr (.inr (rowf m_122 rr_126))))))], RWs m_98 rr_102 (g 0) ln_99 rc_100, RWs m_122 rr_126 (g 0) ln_123 rc_124, offS ad_137 tp_o0 hd_o0 tf_o0 cf_o0 g o_138, offS ad_135 tp_o8 hd_o8 tf_o8 cf_o8 g o_133] 7 [0, 1, 2, 3, 4, 6, 5] rfl rfl (by decide) hP hD
            have hP : va_P (dC, dI) vwCl ([(a_r_, .inl (g 0, n_r_, .inl r__93)), (a_q_78, .inl (g 0, n_81, .inl q138_97)), (a_q_110, .inl (g 3, 8, .inr (.inr (.inr (.inr (rowf m_122 rr_126))))))] ++ (RWs m_98 rr_102 (g 0) ln_99 rc_100 ++ (RWs m_122 rr_126 (g 0) ln_123 rc_124 ++ (offS ad_137 tp_o0 hd_o0 tf_o0 cf_o0 g o_138 ++ (offS ad_135 tp_o8 hd_o8 tf_o8 cf_o8 g o_133))))) H_136 := hP
            have hD : va_D A ([(a_r_, .inl (g 0, n_r_, .inl r__93)), (a_q_78, .inl (g 0, n_81, .inl q138_97)), (a_q_110, .inl (g 3, 8, .inr (.inr (.inr (.inr (rowf m_122 rr_126))))))] ++ (RWs m_98 rr_102 (g 0) ln_99 rc_100 ++ (RWs m_122 rr_126 (g 0) ln_123 rc_124 ++ (offS ad_137 tp_o0 hd_o0 tf_o0 cf_o0 g o_138 ++ (offS ad_135 tp_o8 hd_o8 tf_o8 cf_o8 g o_133))))) := hD
            refine W.widen (k := 3345) (n := 272795) (by omega) (by omega) ?_
            refine lv_iload hx hb dL_isProgram_332 (lv_at hl 5 rfl) ?_
            refine lv_iconst (v := (-1)) hx hb dL_isProgram_334 (by decide) ?_
            have JN343 : ∀ (sk0_139 : Int32) (H : Heap) (locs : List Loc), (wj_L_isProgram_343 Q r_58 n_81 r__93 q138_97 m_122 ln_123 rc_124 v10_132 o_133 v9_134 o_138 r_136) sk0_139 → va_P (dC, dI) vwCl ([(a_r_, .inl (g 0, n_r_, .inl r__93)), (a_q_78, .inl (g 0, n_81, .inl q138_97)), (a_q_110, .inl (g 3, 8, .inr (.inr (.inr (.inr (rowf m_122 rr_126))))))] ++ (RWs m_98 rr_102 (g 0) ln_99 rc_100 ++ (RWs m_122 rr_126 (g 0) ln_123 rc_124 ++ (offS ad_137 tp_o0 hd_o0 tf_o0 cf_o0 g o_138 ++ (offS ad_135 tp_o8 hd_o8 tf_o8 cf_o8 g o_133))))) H → va_D A ([(a_r_, .inl (g 0, n_r_, .inl r__93)), (a_q_78, .inl (g 0, n_81, .inl q138_97)), (a_q_110, .inl (g 3, 8, .inr (.inr (.inr (.inr (rowf m_122 rr_126))))))] ++ (RWs m_98 rr_102 (g 0) ln_99 rc_100 ++ (RWs m_122 rr_126 (g 0) ln_123 rc_124 ++ (offS ad_137 tp_o0 hd_o0 tf_o0 cf_o0 g o_138 ++ (offS ad_135 tp_o8 hd_o8 tf_o8 cf_o8 g o_133))))) → va_S A s.heap H locs → ∀ (ls : Array Slot), lv_has ls 12 [(1, .ref t_o0), (2, .ref t_o8), (4, .int r_58), (7, .ref a_q_78), (8, .ref a_q_110), (9, .int v9_134), (10, .int (b2i v10_132))] → W p l e (headSpec wqL_isProgram ({ frames := 17, cells := 7020, slots := 298337, locals := 274 })).room s m ([.ref a_r_] : List Value).toArray below meth c H locs 3345 272795 QM (F0 m 343 ls [.int sk0_139, .int r_136]) := by
              intro sk0_139 H locs hw hP hD hS ls hl
              refine lv_icmp_ne (tgt := 368) hx hb dL_isProgram_343 (by decide) (fun c_140 => ?_) (fun c_140 => ?_)
              · have hw := hw.2 c_140
                refine lv_iconst (v := 0) hx hb dL_isProgram_368 (by decide) ?_
                refine W.widen (k := 7020) (n := 298337) (by omega) (by omega) ?_
                subst hQM
                obtain ⟨hP, hD⟩ := seg_sub (segs := [[(a_r_, .inl (g 0, n_r_, .inl r__93))], [(a_q_78, .inl (g 0, n_81, .inl q138_97))], [(a_q_110, .inl (g 3, 8, .inr (.inr (.inr (.inr (rowf m_122 rr_126))))))], RWs m_98 rr_102 (g 0) ln_99 rc_100, RWs m_122 rr_126 (g 0) ln_123 rc_124, offS ad_137 tp_o0 hd_o0 tf_o0 cf_o0 g o_138, offS ad_135 tp_o8 hd_o8 tf_o8 cf_o8 g o_133]) [[(a_r_, .inl (g 0, n_r_, .inl r__93))]] [[(a_q_78, .inl (g 0, n_81, .inl q138_97))], [(a_q_110, .inl (g 3, 8, .inr (.inr (.inr (.inr (rowf m_122 rr_126))))))], RWs m_98 rr_102 (g 0) ln_99 rc_100, RWs m_122 rr_126 (g 0) ln_123 rc_124, offS ad_137 tp_o0 hd_o0 tf_o0 cf_o0 g o_138, offS ad_135 tp_o8 hd_o8 tf_o8 cf_o8 g o_133] 7 [0, 1, 2, 3, 4, 5, 6] rfl rfl (by decide) hP hD
                exact W.zret (v := 0) hx hb hr rfl (fun t ht hW => ⟨⟨_, (r__93, ()), rfl, ⟨false, rfl, hw⟩, ⟨P_at ht hP, hD⟩⟩, hS.F ht⟩) hS.2.2 dL_isProgram_369
              · have hw := hw.1 c_140
                refine lv_aload_n hx hb dL_isProgram_346 rfl (lv_at hl 0 rfl) ?_
                obtain ⟨hPs, hDs⟩ := seg_call (segs := [[(a_r_, .inl (g 0, n_r_, .inl r__93))], [(a_q_78, .inl (g 0, n_81, .inl q138_97))], [(a_q_110, .inl (g 3, 8, .inr (.inr (.inr (.inr (rowf m_122 rr_126))))))], RWs m_98 rr_102 (g 0) ln_99 rc_100, RWs m_122 rr_126 (g 0) ln_123 rc_124, offS ad_137 tp_o0 hd_o0 tf_o0 cf_o0 g o_138, offS ad_135 tp_o8 hd_o8 tf_o8 cf_o8 g o_133]) [[(a_r_, .inl (g 0, n_r_, .inl r__93))], [(a_q_78, .inl (g 0, n_81, .inl q138_97))], [(a_q_110, .inl (g 3, 8, .inr (.inr (.inr (.inr (rowf m_122 rr_126))))))], RWs m_98 rr_102 (g 0) ln_99 rc_100, RWs m_122 rr_126 (g 0) ln_123 rc_124, offS ad_135 tp_o8 hd_o8 tf_o8 cf_o8 g o_133] [offS ad_137 tp_o0 hd_o0 tf_o0 cf_o0 g o_138] 7 [0, 1, 2, 3, 4, 6, 5] rfl rfl (by decide) hP hD
                have hPc : va_P (dC, dI) vwCl (offS ad_137 tp_o0 hd_o0 tf_o0 cf_o0 g o_138) H := P_r hPs
                have hDc : va_D A (offS ad_137 tp_o0 hd_o0 tf_o0 cf_o0 g o_138) := D_r hDs
                have hFc : ∀ q, va_A (offS ad_137 tp_o0 hd_o0 tf_o0 cf_o0 g o_138) H.size q → A q := A_all hDc hA hS.1
                refine vx_calli (vx_runV (As := []) (rest := []) ⟨hx, hb, hml, hown, hts⟩ (p_errorPlace l hlf dC dI g tp_o0 hd_o0 tf_o0 cf_o0 htf_o0 hcf_o0 ad_137 t_o0 had_137 o_138 (hw := hw) (sz := H.size)) (cwV 0 hts (gqV aw_7_180 aw_7_181 aw_7_182 aw_1_1 aw_7_183) rfl rfl rfl (by decide +kernel) ⟨Nat.le_of_ble_eq_true rfl, Nat.le_of_ble_eq_true rfl⟩) ⟨PG_blind, off_recv had_137 hK hPc, PG_call hK hG hS hPc hDc hFc⟩ rfl rfl hl.1 rfl (lv_room (Nat.le_of_ble_eq_true rfl)) dL_isProgram_347 ⟨by rw [hrc]; omega, by rw [hrs]; omega⟩) hS (fun q _ h => hFc q h) hFc (fun q _ h => hFc q h) (fun E ce q9 ux t H1 locs1 ht hvm hp9 hB9 hz hk hS9 hce hcv hcl => ?_) (fun r_141 u_141 t_141 H_141 L_141 ht_141 hvm_141 hw_141 hB_141 hz_141 hk_141 hS => ?_)
                · exact (hB9.1.1).elim
                obtain ⟨ad_142, o_143⟩ := u_141
                obtain ⟨hw, had_142⟩ := hw_141
                rw [ht_141] at hB_141
                obtain ⟨hP1, hD1⟩ := hB_141
                obtain ⟨hP, hD⟩ := join_r hPs hDs hk_141 hFc hP1 hD1
                obtain ⟨hP, hD⟩ := seg_join [[(a_r_, .inl (g 0, n_r_, .inl r__93))], [(a_q_78, .inl (g 0, n_81, .inl q138_97))], [(a_q_110, .inl (g 3, 8, .inr (.inr (.inr (.inr (rowf m_122 rr_126))))))], RWs m_98 rr_102 (g 0) ln_99 rc_100, RWs m_122 rr_126 (g 0) ln_123 rc_124, offS ad_135 tp_o8 hd_o8 tf_o8 cf_o8 g o_133] [offS ad_142 tp_o0 hd_o0 tf_o0 cf_o0 g o_143] [[(a_r_, .inl (g 0, n_r_, .inl r__93))], [(a_q_78, .inl (g 0, n_81, .inl q138_97))], [(a_q_110, .inl (g 3, 8, .inr (.inr (.inr (.inr (rowf m_122 rr_126))))))], RWs m_98 rr_102 (g 0) ln_99 rc_100, RWs m_122 rr_126 (g 0) ln_123 rc_124, offS ad_142 tp_o0 hd_o0 tf_o0 cf_o0 g o_143, offS ad_135 tp_o8 hd_o8 tf_o8 cf_o8 g o_133] 7 [0, 1, 2, 3, 4, 6, 5] rfl rfl (by decide) hP hD
                have hP : va_P (dC, dI) vwCl ([(a_r_, .inl (g 0, n_r_, .inl r__93)), (a_q_78, .inl (g 0, n_81, .inl q138_97)), (a_q_110, .inl (g 3, 8, .inr (.inr (.inr (.inr (rowf m_122 rr_126))))))] ++ (RWs m_98 rr_102 (g 0) ln_99 rc_100 ++ (RWs m_122 rr_126 (g 0) ln_123 rc_124 ++ (offS ad_142 tp_o0 hd_o0 tf_o0 cf_o0 g o_143 ++ (offS ad_135 tp_o8 hd_o8 tf_o8 cf_o8 g o_133))))) H_141 := hP
                have hD : va_D A ([(a_r_, .inl (g 0, n_r_, .inl r__93)), (a_q_78, .inl (g 0, n_81, .inl q138_97)), (a_q_110, .inl (g 3, 8, .inr (.inr (.inr (.inr (rowf m_122 rr_126))))))] ++ (RWs m_98 rr_102 (g 0) ln_99 rc_100 ++ (RWs m_122 rr_126 (g 0) ln_123 rc_124 ++ (offS ad_142 tp_o0 hd_o0 tf_o0 cf_o0 g o_143 ++ (offS ad_135 tp_o8 hd_o8 tf_o8 cf_o8 g o_133))))) := hD
                refine W.widen (k := 3345) (n := 272795) (by omega) (by omega) ?_
                refine lv_iload hx hb dL_isProgram_350 (lv_at hl 5 rfl) ?_
                refine lv_iconst (v := (-1)) hx hb dL_isProgram_352 (by decide) ?_
                have JN365 : ∀ (sk0_144 : Int32) (H : Heap) (locs : List Loc), (wj_L_isProgram_365 Q r_58 r__93 m_122 ln_123 rc_124 v10_132 o_133 v9_134 o_143 r_141) sk0_144 → va_P (dC, dI) vwCl ([(a_r_, .inl (g 0, n_r_, .inl r__93)), (a_q_110, .inl (g 3, 8, .inr (.inr (.inr (.inr (rowf m_122 rr_126))))))] ++ (RWs m_98 rr_102 (g 0) ln_99 rc_100 ++ (RWs m_122 rr_126 (g 0) ln_123 rc_124 ++ (offS ad_142 tp_o0 hd_o0 tf_o0 cf_o0 g o_143 ++ (offS ad_135 tp_o8 hd_o8 tf_o8 cf_o8 g o_133))))) H → va_D A ([(a_r_, .inl (g 0, n_r_, .inl r__93)), (a_q_110, .inl (g 3, 8, .inr (.inr (.inr (.inr (rowf m_122 rr_126))))))] ++ (RWs m_98 rr_102 (g 0) ln_99 rc_100 ++ (RWs m_122 rr_126 (g 0) ln_123 rc_124 ++ (offS ad_142 tp_o0 hd_o0 tf_o0 cf_o0 g o_143 ++ (offS ad_135 tp_o8 hd_o8 tf_o8 cf_o8 g o_133))))) → va_S A s.heap H locs → ∀ (ls : Array Slot), lv_has ls 12 [(1, .ref t_o0), (2, .ref t_o8), (4, .int r_58), (8, .ref a_q_110), (9, .int v9_134), (10, .int (b2i v10_132))] → W p l e (headSpec wqL_isProgram ({ frames := 17, cells := 7020, slots := 298337, locals := 274 })).room s m ([.ref a_r_] : List Value).toArray below meth c H locs 3345 272795 QM (F0 m 365 ls [.int sk0_144, .int r_141]) := by
                  intro sk0_144 H locs hw hP hD hS ls hl
                  refine lv_icmp_eq (tgt := 370) hx hb dL_isProgram_365 (by decide) (fun c_145 => ?_) (fun c_145 => ?_)
                  · have hw := hw.1 c_145
                    refine lv_aload_n hx hb dL_isProgram_370 rfl (lv_at hl 0 rfl) ?_
                    refine lv_bipush (v := 16) hx hb dL_isProgram_371 (by decide) ?_
                    refine lv_iconst (v := 0) hx hb dL_isProgram_373 (by decide) ?_
                    refine lv_iconst (v := 0) hx hb dL_isProgram_374 (by decide) ?_
                    refine lv_iconst (v := 0) hx hb dL_isProgram_375 (by decide) ?_
                    obtain ⟨hPs, hDs⟩ := seg_call (segs := [[(a_r_, .inl (g 0, n_r_, .inl r__93))], [(a_q_110, .inl (g 3, 8, .inr (.inr (.inr (.inr (rowf m_122 rr_126))))))], RWs m_98 rr_102 (g 0) ln_99 rc_100, RWs m_122 rr_126 (g 0) ln_123 rc_124, offS ad_142 tp_o0 hd_o0 tf_o0 cf_o0 g o_143, offS ad_135 tp_o8 hd_o8 tf_o8 cf_o8 g o_133]) [[(a_r_, .inl (g 0, n_r_, .inl r__93))], [(a_q_110, .inl (g 3, 8, .inr (.inr (.inr (.inr (rowf m_122 rr_126))))))], RWs m_98 rr_102 (g 0) ln_99 rc_100, RWs m_122 rr_126 (g 0) ln_123 rc_124, offS ad_135 tp_o8 hd_o8 tf_o8 cf_o8 g o_133] [offS ad_142 tp_o0 hd_o0 tf_o0 cf_o0 g o_143] 6 [0, 1, 2, 3, 5, 4] rfl rfl (by decide) hP hD
                    have hPc : va_P (dC, dI) vwCl (offS ad_142 tp_o0 hd_o0 tf_o0 cf_o0 g o_143) H := P_r hPs
                    have hDc : va_D A (offS ad_142 tp_o0 hd_o0 tf_o0 cf_o0 g o_143) := D_r hDs
                    have hFc : ∀ q, va_A (offS ad_142 tp_o0 hd_o0 tf_o0 cf_o0 g o_143) H.size q → A q := A_all hDc hA hS.1
                    refine va_calli (vx_runSW (As := [.ref t_o0, .int 16, .int 0, .int 0, .int 0]) (rest := []) ⟨hx, hb, hml, hown, hts⟩ (c_L_asks_16 l hlf dC dI g (tp_p_ := tp_o0) (hd_p_ := hd_o0) (tf_p_ := tf_o0) (cf_p_ := cf_o0) (htf_p_ := htf_o0) (hcf_p_ := hcf_o0) (a_p_ := ad_142) (t_p_ := t_o0) (h_p_ := had_142) (o_p_ := o_143) (a_ := 0) (b_ := 0) (c_ := 0) (hw := hw) (sz := H.size)) (vx_cwSW 5 hts (gqS aw_4_45 aw_4_46 aw_1_0 aw_4_47) rfl rfl rfl (by decide +kernel) ⟨Nat.le_of_ble_eq_true rfl, Nat.le_of_ble_eq_true rfl⟩) ⟨PG_blind, PG_call hK hG hS hPc hDc hFc⟩ rfl rfl hl.1 rfl (lv_room (Nat.le_of_ble_eq_true rfl)) dL_isProgram_376 ⟨by rw [hrc]; omega, by rw [hrs]; omega⟩) hS (fun q _ h => hFc q h) hFc (fun r_146 u_146 t_146 H_146 L_146 ht_146 hvm_146 hw_146 hB_146 hz_146 hk_146 hS => ?_)
                    obtain ⟨ad_147, o_148, u_146⟩ := u_146
                    obtain ⟨hw, had_147⟩ := hw_146
                    rw [ht_146] at hB_146
                    obtain ⟨hP1, hD1⟩ := hB_146
                    obtain ⟨hP, hD⟩ := join_r hPs hDs hk_146 hFc hP1 hD1
                    obtain ⟨hP, hD⟩ := seg_join [[(a_r_, .inl (g 0, n_r_, .inl r__93))], [(a_q_110, .inl (g 3, 8, .inr (.inr (.inr (.inr (rowf m_122 rr_126))))))], RWs m_98 rr_102 (g 0) ln_99 rc_100, RWs m_122 rr_126 (g 0) ln_123 rc_124, offS ad_135 tp_o8 hd_o8 tf_o8 cf_o8 g o_133] [offS ad_147 tp_o0 hd_o0 tf_o0 cf_o0 g o_148] [[(a_r_, .inl (g 0, n_r_, .inl r__93))], [(a_q_110, .inl (g 3, 8, .inr (.inr (.inr (.inr (rowf m_122 rr_126))))))], RWs m_98 rr_102 (g 0) ln_99 rc_100, RWs m_122 rr_126 (g 0) ln_123 rc_124, offS ad_147 tp_o0 hd_o0 tf_o0 cf_o0 g o_148, offS ad_135 tp_o8 hd_o8 tf_o8 cf_o8 g o_133] 6 [0, 1, 2, 3, 5, 4] rfl rfl (by decide) hP hD
                    have hP : va_P (dC, dI) vwCl ([(a_r_, .inl (g 0, n_r_, .inl r__93)), (a_q_110, .inl (g 3, 8, .inr (.inr (.inr (.inr (rowf m_122 rr_126))))))] ++ (RWs m_98 rr_102 (g 0) ln_99 rc_100 ++ (RWs m_122 rr_126 (g 0) ln_123 rc_124 ++ (offS ad_147 tp_o0 hd_o0 tf_o0 cf_o0 g o_148 ++ (offS ad_135 tp_o8 hd_o8 tf_o8 cf_o8 g o_133))))) H_146 := hP
                    have hD : va_D A ([(a_r_, .inl (g 0, n_r_, .inl r__93)), (a_q_110, .inl (g 3, 8, .inr (.inr (.inr (.inr (rowf m_122 rr_126))))))] ++ (RWs m_98 rr_102 (g 0) ln_99 rc_100 ++ (RWs m_122 rr_126 (g 0) ln_123 rc_124 ++ (offS ad_147 tp_o0 hd_o0 tf_o0 cf_o0 g o_148 ++ (offS ad_135 tp_o8 hd_o8 tf_o8 cf_o8 g o_133))))) := hD
                    refine W.widen (k := 3346) (n := 272801) (by omega) (by omega) ?_
                    refine lv_istore_n (lv' := [(3, .int r_146), (1, .ref t_o0), (2, .ref t_o8), (4, .int r_58), (8, .ref a_q_110), (9, .int v9_134), (10, .int (b2i v10_132))]) hx hb dL_isProgram_379 rfl hl (by decide) rfl (fun ls hl => ?_)
                    refine lv_iload_n hx hb dL_isProgram_380 rfl (lv_at hl 0 rfl) ?_
                    refine lv_iload hx hb dL_isProgram_381 (lv_at hl 5 rfl) ?_
                    refine lv_iconst (v := (-1)) hx hb dL_isProgram_383 (by decide) ?_
                    have JN395 : ∀ (sk0_149 : Int32) (H : Heap) (locs : List Loc), (wj_L_isProgram_395 Q r__93 m_122 ln_123 rc_124 v10_132 o_133 v9_134 o_148 r_146) sk0_149 → va_P (dC, dI) vwCl ([(a_r_, .inl (g 0, n_r_, .inl r__93)), (a_q_110, .inl (g 3, 8, .inr (.inr (.inr (.inr (rowf m_122 rr_126))))))] ++ (RWs m_98 rr_102 (g 0) ln_99 rc_100 ++ (RWs m_122 rr_126 (g 0) ln_123 rc_124 ++ (offS ad_147 tp_o0 hd_o0 tf_o0 cf_o0 g o_148 ++ (offS ad_135 tp_o8 hd_o8 tf_o8 cf_o8 g o_133))))) H → va_D A ([(a_r_, .inl (g 0, n_r_, .inl r__93)), (a_q_110, .inl (g 3, 8, .inr (.inr (.inr (.inr (rowf m_122 rr_126))))))] ++ (RWs m_98 rr_102 (g 0) ln_99 rc_100 ++ (RWs m_122 rr_126 (g 0) ln_123 rc_124 ++ (offS ad_147 tp_o0 hd_o0 tf_o0 cf_o0 g o_148 ++ (offS ad_135 tp_o8 hd_o8 tf_o8 cf_o8 g o_133))))) → va_S A s.heap H locs → ∀ (ls : Array Slot), lv_has ls 12 [(1, .ref t_o0), (2, .ref t_o8), (8, .ref a_q_110), (9, .int v9_134), (10, .int (b2i v10_132))] → W p l e (headSpec wqL_isProgram ({ frames := 17, cells := 7020, slots := 298337, locals := 274 })).room s m ([.ref a_r_] : List Value).toArray below meth c H locs 3346 272801 QM (F0 m 395 ls [.int sk0_149, .int r_146]) := by
                      intro sk0_149 H locs hw hP hD hS ls hl
                      refine lv_icmp_eq (tgt := 400) hx hb dL_isProgram_395 (by decide) (fun c_150 => ?_) (fun c_150 => ?_)
                      · have hw := hw.1 c_150
                        refine lv_iconst (v := 0) hx hb dL_isProgram_400 (by decide) ?_
                        refine lv_istore (lv' := [(11, .int 0), (1, .ref t_o0), (2, .ref t_o8), (8, .ref a_q_110), (9, .int v9_134), (10, .int (b2i v10_132))]) hx hb dL_isProgram_401 hl (by decide) rfl (fun ls hl => ?_)
                        have EX403_454 : ∀ (o_156 : OS) (o_157 : OS) (ad_158 : Nat → Nat) (ad_159 : Nat → Nat) (had_158 : ad_158 0 = t_o0) (had_159 : ad_159 0 = t_o8) (H : Heap) (locs : List Loc), (wx_L_isProgram_403_454 Q r__93) o_156 o_157 → va_P (dC, dI) vwCl ([(a_r_, .inl (g 0, n_r_, .inl r__93))] ++ (RWs m_98 rr_102 (g 0) ln_99 rc_100 ++ (RWs m_122 rr_126 (g 0) ln_123 rc_124 ++ (offS ad_158 tp_o0 hd_o0 tf_o0 cf_o0 g o_156 ++ (offS ad_159 tp_o8 hd_o8 tf_o8 cf_o8 g o_157))))) H → va_D A ([(a_r_, .inl (g 0, n_r_, .inl r__93))] ++ (RWs m_98 rr_102 (g 0) ln_99 rc_100 ++ (RWs m_122 rr_126 (g 0) ln_123 rc_124 ++ (offS ad_158 tp_o0 hd_o0 tf_o0 cf_o0 g o_156 ++ (offS ad_159 tp_o8 hd_o8 tf_o8 cf_o8 g o_157))))) → va_S A s.heap H locs → ∀ (ls : Array Slot), lv_has ls 12 [] → W p l e (headSpec wqL_isProgram ({ frames := 17, cells := 7020, slots := 298337, locals := 274 })).room s m ([.ref a_r_] : List Value).toArray below meth c H locs 7018 298325 QM (F0 m 454 ls []) := by
                          intro o_156 o_157 ad_158 ad_159 had_158 had_159 H locs hw hP hD hS ls hl
                          refine lv_iconst (v := 0) hx hb dL_isProgram_454 (by decide) ?_
                          refine W.widen (k := 7020) (n := 298337) (by omega) (by omega) ?_
                          subst hQM
                          obtain ⟨hP, hD⟩ := seg_sub (segs := [[(a_r_, .inl (g 0, n_r_, .inl r__93))], RWs m_98 rr_102 (g 0) ln_99 rc_100, RWs m_122 rr_126 (g 0) ln_123 rc_124, offS ad_158 tp_o0 hd_o0 tf_o0 cf_o0 g o_156, offS ad_159 tp_o8 hd_o8 tf_o8 cf_o8 g o_157]) [[(a_r_, .inl (g 0, n_r_, .inl r__93))]] [RWs m_98 rr_102 (g 0) ln_99 rc_100, RWs m_122 rr_126 (g 0) ln_123 rc_124, offS ad_158 tp_o0 hd_o0 tf_o0 cf_o0 g o_156, offS ad_159 tp_o8 hd_o8 tf_o8 cf_o8 g o_157] 5 [0, 1, 2, 3, 4] rfl rfl (by decide) hP hD
                          exact W.zret (v := 0) hx hb hr rfl (fun t ht hW => ⟨⟨_, (r__93, ()), rfl, ⟨false, rfl, hw⟩, ⟨P_at ht hP, hD⟩⟩, hS.F ht⟩) hS.2.2 dL_isProgram_455
                        have EX403_462 : ∀ (o_160 : OS) (o_161 : OS) (ad_162 : Nat → Nat) (ad_163 : Nat → Nat) (had_162 : ad_162 0 = t_o0) (had_163 : ad_163 0 = t_o8) (H : Heap) (locs : List Loc), (wx_L_isProgram_403_462 Q r__93) o_160 o_161 → va_P (dC, dI) vwCl ([(a_r_, .inl (g 0, n_r_, .inl r__93))] ++ (RWs m_98 rr_102 (g 0) ln_99 rc_100 ++ (RWs m_122 rr_126 (g 0) ln_123 rc_124 ++ (offS ad_162 tp_o0 hd_o0 tf_o0 cf_o0 g o_160 ++ (offS ad_163 tp_o8 hd_o8 tf_o8 cf_o8 g o_161))))) H → va_D A ([(a_r_, .inl (g 0, n_r_, .inl r__93))] ++ (RWs m_98 rr_102 (g 0) ln_99 rc_100 ++ (RWs m_122 rr_126 (g 0) ln_123 rc_124 ++ (offS ad_162 tp_o0 hd_o0 tf_o0 cf_o0 g o_160 ++ (offS ad_163 tp_o8 hd_o8 tf_o8 cf_o8 g o_161))))) → va_S A s.heap H locs → ∀ (ls : Array Slot), lv_has ls 12 [(1, .ref t_o0)] → W p l e (headSpec wqL_isProgram ({ frames := 17, cells := 7020, slots := 298337, locals := 274 })).room s m ([.ref a_r_] : List Value).toArray below meth c H locs 7018 298325 QM (F0 m 462 ls []) := by
                          intro o_160 o_161 ad_162 ad_163 had_162 had_163 H locs hw hP hD hS ls hl
                          refine lv_aload_n hx hb dL_isProgram_462 rfl (lv_at hl 0 rfl) ?_
                          refine lv_bipush (v := 11) hx hb dL_isProgram_463 (by decide) ?_
                          refine lv_iconst (v := 0) hx hb dL_isProgram_465 (by decide) ?_
                          refine lv_iconst (v := 0) hx hb dL_isProgram_466 (by decide) ?_
                          refine lv_iconst (v := 0) hx hb dL_isProgram_467 (by decide) ?_
                          obtain ⟨hPs, hDs⟩ := seg_call (segs := [[(a_r_, .inl (g 0, n_r_, .inl r__93))], RWs m_98 rr_102 (g 0) ln_99 rc_100, RWs m_122 rr_126 (g 0) ln_123 rc_124, offS ad_162 tp_o0 hd_o0 tf_o0 cf_o0 g o_160, offS ad_163 tp_o8 hd_o8 tf_o8 cf_o8 g o_161]) [[(a_r_, .inl (g 0, n_r_, .inl r__93))], RWs m_98 rr_102 (g 0) ln_99 rc_100, RWs m_122 rr_126 (g 0) ln_123 rc_124, offS ad_163 tp_o8 hd_o8 tf_o8 cf_o8 g o_161] [offS ad_162 tp_o0 hd_o0 tf_o0 cf_o0 g o_160] 5 [0, 1, 2, 4, 3] rfl rfl (by decide) hP hD
                          have hPc : va_P (dC, dI) vwCl (offS ad_162 tp_o0 hd_o0 tf_o0 cf_o0 g o_160) H := P_r hPs
                          have hDc : va_D A (offS ad_162 tp_o0 hd_o0 tf_o0 cf_o0 g o_160) := D_r hDs
                          have hFc : ∀ q, va_A (offS ad_162 tp_o0 hd_o0 tf_o0 cf_o0 g o_160) H.size q → A q := A_all hDc hA hS.1
                          refine va_calli (vx_runSW (As := [.ref t_o0, .int 11, .int 0, .int 0, .int 0]) (rest := []) ⟨hx, hb, hml, hown, hts⟩ (c_L_asks_11 l hlf dC dI g (tp_p_ := tp_o0) (hd_p_ := hd_o0) (tf_p_ := tf_o0) (cf_p_ := cf_o0) (htf_p_ := htf_o0) (hcf_p_ := hcf_o0) (a_p_ := ad_162) (t_p_ := t_o0) (h_p_ := had_162) (o_p_ := o_160) (a_ := 0) (b_ := 0) (c_ := 0) (hw := hw) (sz := H.size)) (vx_cwSW 5 hts (gqS aw_4_45 aw_4_46 aw_1_0 aw_4_47) rfl rfl rfl (by decide +kernel) ⟨Nat.le_of_ble_eq_true rfl, Nat.le_of_ble_eq_true rfl⟩) ⟨PG_blind, PG_call hK hG hS hPc hDc hFc⟩ rfl rfl hl.1 rfl (lv_room (Nat.le_of_ble_eq_true rfl)) dL_isProgram_468 ⟨by rw [hrc]; omega, by rw [hrs]; omega⟩) hS (fun q _ h => hFc q h) hFc (fun r_164 u_164 t_164 H_164 L_164 ht_164 hvm_164 hw_164 hB_164 hz_164 hk_164 hS => ?_)
                          obtain ⟨ad_165, o_166, u_164⟩ := u_164
                          obtain ⟨hw, had_165⟩ := hw_164
                          rw [ht_164] at hB_164
                          obtain ⟨hP1, hD1⟩ := hB_164
                          obtain ⟨hP, hD⟩ := join_r hPs hDs hk_164 hFc hP1 hD1
                          obtain ⟨hP, hD⟩ := seg_join [[(a_r_, .inl (g 0, n_r_, .inl r__93))], RWs m_98 rr_102 (g 0) ln_99 rc_100, RWs m_122 rr_126 (g 0) ln_123 rc_124, offS ad_163 tp_o8 hd_o8 tf_o8 cf_o8 g o_161] [offS ad_165 tp_o0 hd_o0 tf_o0 cf_o0 g o_166] [[(a_r_, .inl (g 0, n_r_, .inl r__93))], RWs m_98 rr_102 (g 0) ln_99 rc_100, RWs m_122 rr_126 (g 0) ln_123 rc_124, offS ad_165 tp_o0 hd_o0 tf_o0 cf_o0 g o_166, offS ad_163 tp_o8 hd_o8 tf_o8 cf_o8 g o_161] 5 [0, 1, 2, 4, 3] rfl rfl (by decide) hP hD
                          have hP : va_P (dC, dI) vwCl ([(a_r_, .inl (g 0, n_r_, .inl r__93))] ++ (RWs m_98 rr_102 (g 0) ln_99 rc_100 ++ (RWs m_122 rr_126 (g 0) ln_123 rc_124 ++ (offS ad_165 tp_o0 hd_o0 tf_o0 cf_o0 g o_166 ++ (offS ad_163 tp_o8 hd_o8 tf_o8 cf_o8 g o_161))))) H_164 := hP
                          have hD : va_D A ([(a_r_, .inl (g 0, n_r_, .inl r__93))] ++ (RWs m_98 rr_102 (g 0) ln_99 rc_100 ++ (RWs m_122 rr_126 (g 0) ln_123 rc_124 ++ (offS ad_165 tp_o0 hd_o0 tf_o0 cf_o0 g o_166 ++ (offS ad_163 tp_o8 hd_o8 tf_o8 cf_o8 g o_161))))) := hD
                          refine W.widen (k := 7020) (n := 298337) (by omega) (by omega) ?_
                          refine lv_sipush (v := (-20004)) hx hb dL_isProgram_471 (by decide) ?_
                          refine lv_icmp_ne (tgt := 481) hx hb dL_isProgram_474 (by decide) (fun c_167 => ?_) (fun c_167 => ?_)
                          · have hw := hw.2 c_167
                            refine lv_iconst (v := 0) hx hb dL_isProgram_481 (by decide) ?_
                            refine W.widen (k := 7020) (n := 298337) (by omega) (by omega) ?_
                            subst hQM
                            obtain ⟨hP, hD⟩ := seg_sub (segs := [[(a_r_, .inl (g 0, n_r_, .inl r__93))], RWs m_98 rr_102 (g 0) ln_99 rc_100, RWs m_122 rr_126 (g 0) ln_123 rc_124, offS ad_165 tp_o0 hd_o0 tf_o0 cf_o0 g o_166, offS ad_163 tp_o8 hd_o8 tf_o8 cf_o8 g o_161]) [[(a_r_, .inl (g 0, n_r_, .inl r__93))]] [RWs m_98 rr_102 (g 0) ln_99 rc_100, RWs m_122 rr_126 (g 0) ln_123 rc_124, offS ad_165 tp_o0 hd_o0 tf_o0 cf_o0 g o_166, offS ad_163 tp_o8 hd_o8 tf_o8 cf_o8 g o_161] 5 [0, 1, 2, 3, 4] rfl rfl (by decide) hP hD
                            exact W.zret (v := 0) hx hb hr rfl (fun t ht hW => ⟨⟨_, (r__93, ()), rfl, ⟨false, rfl, hw⟩, ⟨P_at ht hP, hD⟩⟩, hS.F ht⟩) hS.2.2 dL_isProgram_482
                          · have hw := hw.1 c_167
                            refine lv_iconst (v := 1) hx hb dL_isProgram_477 (by decide) ?_
                            refine lv_goto (tgt := 482) hx hb dL_isProgram_478 (by decide) ?_
                            refine W.widen (k := 7020) (n := 298337) (by omega) (by omega) ?_
                            subst hQM
                            obtain ⟨hP, hD⟩ := seg_sub (segs := [[(a_r_, .inl (g 0, n_r_, .inl r__93))], RWs m_98 rr_102 (g 0) ln_99 rc_100, RWs m_122 rr_126 (g 0) ln_123 rc_124, offS ad_165 tp_o0 hd_o0 tf_o0 cf_o0 g o_166, offS ad_163 tp_o8 hd_o8 tf_o8 cf_o8 g o_161]) [[(a_r_, .inl (g 0, n_r_, .inl r__93))]] [RWs m_98 rr_102 (g 0) ln_99 rc_100, RWs m_122 rr_126 (g 0) ln_123 rc_124, offS ad_165 tp_o0 hd_o0 tf_o0 cf_o0 g o_166, offS ad_163 tp_o8 hd_o8 tf_o8 cf_o8 g o_161] 5 [0, 1, 2, 3, 4] rfl rfl (by decide) hP hD
                            exact W.zret (v := 1) hx hb hr rfl (fun t ht hW => ⟨⟨_, (r__93, ()), rfl, ⟨true, rfl, hw⟩, ⟨P_at ht hP, hD⟩⟩, hS.F ht⟩) hS.2.2 dL_isProgram_482
                        have LOOP403 : ∀ (n403 : Nat), n403 ≤ 9 → ∀ (v11_151 : Int32) (o_152 : OS) (o_153 : OS) (ad_154 : Nat → Nat) (ad_155 : Nat → Nat) (had_154 : ad_154 0 = t_o0) (had_155 : ad_155 0 = t_o8) (H : Heap) (locs : List Loc), wl_L_isProgram_403 m_122 ln_123 rc_124 v10_132 v9_134 (wx_L_isProgram_403_454 Q r__93) (wx_L_isProgram_403_462 Q r__93) n403 v11_151 o_152 o_153 → va_P (dC, dI) vwCl ([(a_r_, .inl (g 0, n_r_, .inl r__93)), (a_q_110, .inl (g 3, 8, .inr (.inr (.inr (.inr (rowf m_122 rr_126))))))] ++ (RWs m_98 rr_102 (g 0) ln_99 rc_100 ++ (RWs m_122 rr_126 (g 0) ln_123 rc_124 ++ (offS ad_154 tp_o0 hd_o0 tf_o0 cf_o0 g o_152 ++ (offS ad_155 tp_o8 hd_o8 tf_o8 cf_o8 g o_153))))) H → va_D A ([(a_r_, .inl (g 0, n_r_, .inl r__93)), (a_q_110, .inl (g 3, 8, .inr (.inr (.inr (.inr (rowf m_122 rr_126))))))] ++ (RWs m_98 rr_102 (g 0) ln_99 rc_100 ++ (RWs m_122 rr_126 (g 0) ln_123 rc_124 ++ (offS ad_154 tp_o0 hd_o0 tf_o0 cf_o0 g o_152 ++ (offS ad_155 tp_o8 hd_o8 tf_o8 cf_o8 g o_153))))) → va_S A s.heap H locs → ∀ (ls : Array Slot), lv_has ls 12 [(1, .ref t_o0), (2, .ref t_o8), (8, .ref a_q_110), (9, .int v9_134), (10, .int (b2i v10_132)), (11, .int v11_151)] → W p l e (headSpec wqL_isProgram ({ frames := 17, cells := 7020, slots := 298337, locals := 274 })).room s m ([.ref a_r_] : List Value).toArray below meth c H locs (7018 - n403 * 408) (298325 - n403 * 2836) QM (F0 m 403 ls []) := by
                          intro n403
                          induction n403 with
                          | zero =>
                            intro hle_n403
                            intro v11_151 o_152 o_153 ad_154 ad_155 had_154 had_155 H locs hw hP hD hS ls hl
                            exact False.elim hw
                          | succ n403 ih403 =>
                            intro hle_n403
                            have ih403 := ih403 (by omega)
                            intro v11_151 o_152 o_153 ad_154 ad_155 had_154 had_155 H locs hw hP hD hS ls hl
                            rw [wl_L_isProgram_403_s] at hw
                            obtain ⟨kb403, hkb403⟩ : ∃ x : Nat, x = 7018 - (n403 + 1) * 408 := ⟨_, rfl⟩
                            obtain ⟨nb403, hnb403⟩ : ∃ x : Nat, x = 298325 - (n403 + 1) * 2836 := ⟨_, rfl⟩
                            refine W.widen (k := kb403) (n := nb403) (by omega) (by omega) ?_
                            refine lv_iload hx hb dL_isProgram_403 (lv_at hl 5 rfl) ?_
                            refine lv_bipush (v := 8) hx hb dL_isProgram_405 (by decide) ?_
                            refine lv_icmp_ge (tgt := 462) hx hb dL_isProgram_407 (by decide) (fun c_168 => ?_) (fun c_168 => ?_)
                            · have hw := hw.1 c_168
                              obtain ⟨hP, hD⟩ := seg_sub (segs := [[(a_r_, .inl (g 0, n_r_, .inl r__93))], [(a_q_110, .inl (g 3, 8, .inr (.inr (.inr (.inr (rowf m_122 rr_126))))))], RWs m_98 rr_102 (g 0) ln_99 rc_100, RWs m_122 rr_126 (g 0) ln_123 rc_124, offS ad_154 tp_o0 hd_o0 tf_o0 cf_o0 g o_152, offS ad_155 tp_o8 hd_o8 tf_o8 cf_o8 g o_153]) [[(a_r_, .inl (g 0, n_r_, .inl r__93))], RWs m_98 rr_102 (g 0) ln_99 rc_100, RWs m_122 rr_126 (g 0) ln_123 rc_124, offS ad_154 tp_o0 hd_o0 tf_o0 cf_o0 g o_152, offS ad_155 tp_o8 hd_o8 tf_o8 cf_o8 g o_153] [[(a_q_110, .inl (g 3, 8, .inr (.inr (.inr (.inr (rowf m_122 rr_126))))))]] 6 [0, 2, 3, 4, 5, 1] rfl rfl (by decide) hP hD
                              refine W.widen (k := 7018) (n := 298325) (by omega) (by omega) ?_
                              exact EX403_462 o_152 o_153 ad_154 ad_155 had_154 had_155 _ _ hw hP hD hS _ (lv_sub hl [0] rfl)
                            · have hw := hw.2 c_168
                              refine lv_iload hx hb dL_isProgram_410 (lv_at hl 5 rfl) ?_
                              refine lv_bipush (v := 7) hx hb dL_isProgram_412 (by decide) ?_
                              have JN422 : ∀  (H : Heap) (locs : List Loc), (wj_L_isProgram_422 m_122 ln_123 rc_124 v9_134 v11_151 o_152 o_153 (wl_L_isProgram_403 m_122 ln_123 rc_124 v10_132 v9_134 (wx_L_isProgram_403_454 Q r__93) (wx_L_isProgram_403_462 Q r__93) n403) (wx_L_isProgram_403_454 Q r__93))  → va_P (dC, dI) vwCl ([(a_r_, .inl (g 0, n_r_, .inl r__93)), (a_q_110, .inl (g 3, 8, .inr (.inr (.inr (.inr (rowf m_122 rr_126))))))] ++ (RWs m_98 rr_102 (g 0) ln_99 rc_100 ++ (RWs m_122 rr_126 (g 0) ln_123 rc_124 ++ (offS ad_154 tp_o0 hd_o0 tf_o0 cf_o0 g o_152 ++ (offS ad_155 tp_o8 hd_o8 tf_o8 cf_o8 g o_153))))) H → va_D A ([(a_r_, .inl (g 0, n_r_, .inl r__93)), (a_q_110, .inl (g 3, 8, .inr (.inr (.inr (.inr (rowf m_122 rr_126))))))] ++ (RWs m_98 rr_102 (g 0) ln_99 rc_100 ++ (RWs m_122 rr_126 (g 0) ln_123 rc_124 ++ (offS ad_154 tp_o0 hd_o0 tf_o0 cf_o0 g o_152 ++ (offS ad_155 tp_o8 hd_o8 tf_o8 cf_o8 g o_153))))) → va_S A s.heap H locs → ∀ (ls : Array Slot), lv_has ls 12 [(1, .ref t_o0), (2, .ref t_o8), (8, .ref a_q_110), (9, .int v9_134), (10, .int (b2i v10_132)), (11, .int v11_151)] → W p l e (headSpec wqL_isProgram ({ frames := 17, cells := 7020, slots := 298337, locals := 274 })).room s m ([.ref a_r_] : List Value).toArray below meth c H locs (kb403 + 0) (nb403 + 0) QM (F0 m 422 ls []) := by
                                intro  H locs hw hP hD hS ls hl
                                refine lv_aload_n hx hb dL_isProgram_422 rfl (lv_at hl 0 rfl) ?_
                                refine lv_iload hx hb dL_isProgram_423 (lv_at hl 5 rfl) ?_
                                obtain ⟨hPs, hDs⟩ := seg_call (segs := [[(a_r_, .inl (g 0, n_r_, .inl r__93))], [(a_q_110, .inl (g 3, 8, .inr (.inr (.inr (.inr (rowf m_122 rr_126))))))], RWs m_98 rr_102 (g 0) ln_99 rc_100, RWs m_122 rr_126 (g 0) ln_123 rc_124, offS ad_154 tp_o0 hd_o0 tf_o0 cf_o0 g o_152, offS ad_155 tp_o8 hd_o8 tf_o8 cf_o8 g o_153]) [[(a_r_, .inl (g 0, n_r_, .inl r__93))], [(a_q_110, .inl (g 3, 8, .inr (.inr (.inr (.inr (rowf m_122 rr_126))))))], RWs m_98 rr_102 (g 0) ln_99 rc_100, RWs m_122 rr_126 (g 0) ln_123 rc_124, offS ad_155 tp_o8 hd_o8 tf_o8 cf_o8 g o_153] [offS ad_154 tp_o0 hd_o0 tf_o0 cf_o0 g o_152] 6 [0, 1, 2, 3, 5, 4] rfl rfl (by decide) hP hD
                                have hPc : va_P (dC, dI) vwCl (offS ad_154 tp_o0 hd_o0 tf_o0 cf_o0 g o_152) H := P_r hPs
                                have hDc : va_D A (offS ad_154 tp_o0 hd_o0 tf_o0 cf_o0 g o_152) := D_r hDs
                                have hFc : ∀ q, va_A (offS ad_154 tp_o0 hd_o0 tf_o0 cf_o0 g o_152) H.size q → A q := A_all hDc hA hS.1
                                refine va_callq (va_runS (As := [.ref t_o0, .int v11_151]) (rest := []) ⟨hx, hb, hml, hown, hts⟩ (c_L_tape l hlf dC dI g (tp_p_ := tp_o0) (hd_p_ := hd_o0) (tf_p_ := tf_o0) (cf_p_ := cf_o0) (htf_p_ := htf_o0) (hcf_p_ := hcf_o0) (a_p_ := ad_154) (t_p_ := t_o0) (h_p_ := had_154) (o_p_ := o_152) (tape := v11_151) (hw := hw) (sz := H.size)) (va_cwS 2 hts (gqS aw_3_158 aw_3_159 aw_1_0 aw_3_160) rfl rfl rfl (by decide +kernel) ⟨Nat.le_of_ble_eq_true rfl, Nat.le_of_ble_eq_true rfl⟩) ⟨PG_blind, PG_call hK hG hS hPc hDc hFc⟩ rfl rfl hl.1 rfl (lv_room (Nat.le_of_ble_eq_true rfl)) dL_isProgram_425 ⟨by rw [hrc]; omega, by rw [hrs]; omega⟩) hS (fun q _ h => hFc q h) hFc (fun r_169 u_169 t_169 H_169 L_169 ht_169 hvm_169 hw_169 hB_169 hz_169 hk_169 hS => ?_)
                                obtain ⟨ad_170, o_171, a_q_172, n_173, q_174, u_169⟩ := u_169
                                obtain ⟨rfl, ⟨hw, had_170⟩⟩ := hw_169
                                rw [ht_169] at hB_169
                                obtain ⟨hP1, hD1⟩ := hB_169
                                obtain ⟨hP, hD⟩ := join_r hPs hDs hk_169 hFc hP1 hD1
                                obtain ⟨hP, hD⟩ := seg_join [[(a_r_, .inl (g 0, n_r_, .inl r__93))], [(a_q_110, .inl (g 3, 8, .inr (.inr (.inr (.inr (rowf m_122 rr_126))))))], RWs m_98 rr_102 (g 0) ln_99 rc_100, RWs m_122 rr_126 (g 0) ln_123 rc_124, offS ad_155 tp_o8 hd_o8 tf_o8 cf_o8 g o_153] [[(a_q_172, .inl (g 0, n_173, .inl q_174))], offS ad_170 tp_o0 hd_o0 tf_o0 cf_o0 g o_171] [[(a_r_, .inl (g 0, n_r_, .inl r__93))], [(a_q_110, .inl (g 3, 8, .inr (.inr (.inr (.inr (rowf m_122 rr_126))))))], [(a_q_172, .inl (g 0, n_173, .inl q_174))], RWs m_98 rr_102 (g 0) ln_99 rc_100, RWs m_122 rr_126 (g 0) ln_123 rc_124, offS ad_170 tp_o0 hd_o0 tf_o0 cf_o0 g o_171, offS ad_155 tp_o8 hd_o8 tf_o8 cf_o8 g o_153] 7 [0, 1, 5, 2, 3, 6, 4] rfl rfl (by decide) hP hD
                                have hP : va_P (dC, dI) vwCl ([(a_r_, .inl (g 0, n_r_, .inl r__93)), (a_q_110, .inl (g 3, 8, .inr (.inr (.inr (.inr (rowf m_122 rr_126)))))), (a_q_172, .inl (g 0, n_173, .inl q_174))] ++ (RWs m_98 rr_102 (g 0) ln_99 rc_100 ++ (RWs m_122 rr_126 (g 0) ln_123 rc_124 ++ (offS ad_170 tp_o0 hd_o0 tf_o0 cf_o0 g o_171 ++ (offS ad_155 tp_o8 hd_o8 tf_o8 cf_o8 g o_153))))) H_169 := hP
                                have hD : va_D A ([(a_r_, .inl (g 0, n_r_, .inl r__93)), (a_q_110, .inl (g 3, 8, .inr (.inr (.inr (.inr (rowf m_122 rr_126)))))), (a_q_172, .inl (g 0, n_173, .inl q_174))] ++ (RWs m_98 rr_102 (g 0) ln_99 rc_100 ++ (RWs m_122 rr_126 (g 0) ln_123 rc_124 ++ (offS ad_170 tp_o0 hd_o0 tf_o0 cf_o0 g o_171 ++ (offS ad_155 tp_o8 hd_o8 tf_o8 cf_o8 g o_153))))) := hD
                                refine W.widen (k := (kb403 + 204)) (n := (nb403 + 1418)) (by omega) (by omega) ?_
                                refine lv_iload hx hb dL_isProgram_428 (lv_at hl 3 rfl) ?_
                                refine lv_iconst (v := (-1)) hx hb dL_isProgram_430 (by decide) ?_
                                refine lv_icmp_ne (tgt := 443) hx hb dL_isProgram_431 (by decide) (fun c_175 => ?_) (fun c_175 => ?_)
                                · have hw := hw.2 c_175
                                  refine lv_aload hx hb dL_isProgram_443 (lv_at hl 2 rfl) ?_
                                  refine lv_iload hx hb dL_isProgram_445 (lv_at hl 5 rfl) ?_
                                  obtain ⟨hi_176, hj_177, hw⟩ := hw
                                  refine va_aldA hx hb hK hP 1 rfl hi_176 dL_isProgram_447 ?_
                                  refine W.eq (g2 := F0 m 448 ls (.ref (rr_126 v11_151.toNatClampNeg) :: [.ref a_q_172])) (by rw [rowf_at (vp_lt hj_177)]; rfl) ?_
                                  obtain ⟨hPs, hDs⟩ := seg_call (segs := [[(a_r_, .inl (g 0, n_r_, .inl r__93))], [(a_q_110, .inl (g 3, 8, .inr (.inr (.inr (.inr (rowf m_122 rr_126))))))], [(a_q_172, .inl (g 0, n_173, .inl q_174))], RWs m_98 rr_102 (g 0) ln_99 rc_100, RWs m_122 rr_126 (g 0) ln_123 rc_124, offS ad_170 tp_o0 hd_o0 tf_o0 cf_o0 g o_171, offS ad_155 tp_o8 hd_o8 tf_o8 cf_o8 g o_153]) [[(a_r_, .inl (g 0, n_r_, .inl r__93))], [(a_q_110, .inl (g 3, 8, .inr (.inr (.inr (.inr (rowf m_122 rr_126))))))], [(a_q_172, .inl (g 0, n_173, .inl q_174))], RWs m_98 rr_102 (g 0) ln_99 rc_100, offS ad_170 tp_o0 hd_o0 tf_o0 cf_o0 g o_171, offS ad_155 tp_o8 hd_o8 tf_o8 cf_o8 g o_153] [RWs m_122 rr_126 (g 0) ln_123 rc_124] 7 [0, 1, 2, 3, 5, 6, 4] rfl rfl (by decide) hP hD
                                  have hPs := P_perm (List.Perm.append_left _ (RW_split (m := m_122) (j := v11_151.toNatClampNeg) (r := rr_126) (ln := ln_123) (c0 := g 0) (c := rc_124) (vp_lt hj_177))) hPs
                                  have hDs := D_perm (List.Perm.append_left _ (RW_split (m := m_122) (j := v11_151.toNatClampNeg) (r := rr_126) (ln := ln_123) (c0 := g 0) (c := rc_124) (vp_lt hj_177))) hDs
                                  obtain ⟨hP, hD⟩ := seg_join [[(a_r_, .inl (g 0, n_r_, .inl r__93))], [(a_q_110, .inl (g 3, 8, .inr (.inr (.inr (.inr (rowf m_122 rr_126))))))], [(a_q_172, .inl (g 0, n_173, .inl q_174))], RWs m_98 rr_102 (g 0) ln_99 rc_100, offS ad_170 tp_o0 hd_o0 tf_o0 cf_o0 g o_171, offS ad_155 tp_o8 hd_o8 tf_o8 cf_o8 g o_153] [[((rr_126 v11_151.toNatClampNeg), .inl (g 0, (ln_123 v11_151.toNatClampNeg), .inl (rc_124 v11_151.toNatClampNeg)))], RWx m_122 v11_151.toNatClampNeg rr_126 (g 0) ln_123 rc_124] [[(a_r_, .inl (g 0, n_r_, .inl r__93))], [(a_q_110, .inl (g 3, 8, .inr (.inr (.inr (.inr (rowf m_122 rr_126))))))], [(a_q_172, .inl (g 0, n_173, .inl q_174))], [((rr_126 v11_151.toNatClampNeg), .inl (g 0, (ln_123 v11_151.toNatClampNeg), .inl (rc_124 v11_151.toNatClampNeg)))], RWs m_98 rr_102 (g 0) ln_99 rc_100, RWx m_122 v11_151.toNatClampNeg rr_126 (g 0) ln_123 rc_124, offS ad_170 tp_o0 hd_o0 tf_o0 cf_o0 g o_171, offS ad_155 tp_o8 hd_o8 tf_o8 cf_o8 g o_153] 8 [0, 1, 2, 6, 3, 7, 4, 5] rfl rfl (by decide) hPs hDs
                                  have hP : va_P (dC, dI) vwCl ([(a_r_, .inl (g 0, n_r_, .inl r__93)), (a_q_110, .inl (g 3, 8, .inr (.inr (.inr (.inr (rowf m_122 rr_126)))))), (a_q_172, .inl (g 0, n_173, .inl q_174)), ((rr_126 v11_151.toNatClampNeg), .inl (g 0, (ln_123 v11_151.toNatClampNeg), .inl (rc_124 v11_151.toNatClampNeg)))] ++ (RWs m_98 rr_102 (g 0) ln_99 rc_100 ++ (RWx m_122 v11_151.toNatClampNeg rr_126 (g 0) ln_123 rc_124 ++ (offS ad_170 tp_o0 hd_o0 tf_o0 cf_o0 g o_171 ++ (offS ad_155 tp_o8 hd_o8 tf_o8 cf_o8 g o_153))))) H_169 := hP
                                  have hD : va_D A ([(a_r_, .inl (g 0, n_r_, .inl r__93)), (a_q_110, .inl (g 3, 8, .inr (.inr (.inr (.inr (rowf m_122 rr_126)))))), (a_q_172, .inl (g 0, n_173, .inl q_174)), ((rr_126 v11_151.toNatClampNeg), .inl (g 0, (ln_123 v11_151.toNatClampNeg), .inl (rc_124 v11_151.toNatClampNeg)))] ++ (RWs m_98 rr_102 (g 0) ln_99 rc_100 ++ (RWx m_122 v11_151.toNatClampNeg rr_126 (g 0) ln_123 rc_124 ++ (offS ad_170 tp_o0 hd_o0 tf_o0 cf_o0 g o_171 ++ (offS ad_155 tp_o8 hd_o8 tf_o8 cf_o8 g o_153))))) := hD
                                  obtain ⟨hPs, hDs⟩ := seg_call (segs := [[(a_r_, .inl (g 0, n_r_, .inl r__93))], [(a_q_110, .inl (g 3, 8, .inr (.inr (.inr (.inr (rowf m_122 rr_126))))))], [(a_q_172, .inl (g 0, n_173, .inl q_174))], [((rr_126 v11_151.toNatClampNeg), .inl (g 0, (ln_123 v11_151.toNatClampNeg), .inl (rc_124 v11_151.toNatClampNeg)))], RWs m_98 rr_102 (g 0) ln_99 rc_100, RWx m_122 v11_151.toNatClampNeg rr_126 (g 0) ln_123 rc_124, offS ad_170 tp_o0 hd_o0 tf_o0 cf_o0 g o_171, offS ad_155 tp_o8 hd_o8 tf_o8 cf_o8 g o_153]) [[(a_r_, .inl (g 0, n_r_, .inl r__93))], [(a_q_110, .inl (g 3, 8, .inr (.inr (.inr (.inr (rowf m_122 rr_126))))))], RWs m_98 rr_102 (g 0) ln_99 rc_100, RWx m_122 v11_151.toNatClampNeg rr_126 (g 0) ln_123 rc_124, offS ad_170 tp_o0 hd_o0 tf_o0 cf_o0 g o_171, offS ad_155 tp_o8 hd_o8 tf_o8 cf_o8 g o_153] [[(a_q_172, .inl (g 0, n_173, .inl q_174))], [((rr_126 v11_151.toNatClampNeg), .inl (g 0, (ln_123 v11_151.toNatClampNeg), .inl (rc_124 v11_151.toNatClampNeg)))]] 8 [0, 1, 4, 5, 6, 7, 2, 3] rfl rfl (by decide) hP hD
                                  have hPc : va_P (dC, dI) vwCl [(a_q_172, .inl (g 0, n_173, .inl q_174)), ((rr_126 v11_151.toNatClampNeg), .inl (g 0, (ln_123 v11_151.toNatClampNeg), .inl (rc_124 v11_151.toNatClampNeg)))] H_169 := P_r hPs
                                  have hDc : va_D A [(a_q_172, .inl (g 0, n_173, .inl q_174)), ((rr_126 v11_151.toNatClampNeg), .inl (g 0, (ln_123 v11_151.toNatClampNeg), .inl (rc_124 v11_151.toNatClampNeg)))] := D_r hDs
                                  have hFc : ∀ q, va_A [(a_q_172, .inl (g 0, n_173, .inl q_174)), ((rr_126 v11_151.toNatClampNeg), .inl (g 0, (ln_123 v11_151.toNatClampNeg), .inl (rc_124 v11_151.toNatClampNeg)))] H_169.size q → A q := A_all hDc hA hS.1
                                  refine va_calli (va_runS (As := [.ref a_q_172, .ref (rr_126 v11_151.toNatClampNeg)]) (rest := []) ⟨hx, hb, hml, hown, hts⟩ (c_L_same l hlf dC dI g (a_a_ := a_q_172) (n_a_ := n_173) (a_ := q_174) (a_b_ := (rr_126 v11_151.toNatClampNeg)) (n_b_ := (ln_123 v11_151.toNatClampNeg)) (b_ := (rc_124 v11_151.toNatClampNeg)) (hw := hw) (sz := H_169.size)) (va_cwS 2 hts (gqS aw_4_42 aw_4_43 aw_1_0 aw_4_44) rfl rfl rfl (by decide +kernel) ⟨Nat.le_of_ble_eq_true rfl, Nat.le_of_ble_eq_true rfl⟩) ⟨PG_blind, PG_call hK hG hS hPc hDc hFc⟩ rfl rfl hl.1 rfl (lv_room (Nat.le_of_ble_eq_true rfl)) dL_isProgram_448 ⟨by rw [hrc]; omega, by rw [hrs]; omega⟩) hS (fun q _ h => hFc q h) hFc (fun r_178 u_178 t_178 H_178 L_178 ht_178 hvm_178 hw_178 hB_178 hz_178 hk_178 hS => ?_)
                                  obtain ⟨u_178⟩ := u_178
                                  obtain ⟨b_178, rfl, hw⟩ := hw_178
                                  rw [ht_178] at hB_178
                                  obtain ⟨hP1, hD1⟩ := hB_178
                                  obtain ⟨hP, hD⟩ := join_r hPs hDs hk_178 hFc hP1 hD1
                                  obtain ⟨hP, hD⟩ := seg_join [[(a_r_, .inl (g 0, n_r_, .inl r__93))], [(a_q_110, .inl (g 3, 8, .inr (.inr (.inr (.inr (rowf m_122 rr_126))))))], RWs m_98 rr_102 (g 0) ln_99 rc_100, RWx m_122 v11_151.toNatClampNeg rr_126 (g 0) ln_123 rc_124, offS ad_170 tp_o0 hd_o0 tf_o0 cf_o0 g o_171, offS ad_155 tp_o8 hd_o8 tf_o8 cf_o8 g o_153] [[(a_q_172, .inl (g 0, n_173, .inl q_174))], [((rr_126 v11_151.toNatClampNeg), .inl (g 0, (ln_123 v11_151.toNatClampNeg), .inl (rc_124 v11_151.toNatClampNeg)))]] [[(a_r_, .inl (g 0, n_r_, .inl r__93))], [(a_q_110, .inl (g 3, 8, .inr (.inr (.inr (.inr (rowf m_122 rr_126))))))], [(a_q_172, .inl (g 0, n_173, .inl q_174))], [((rr_126 v11_151.toNatClampNeg), .inl (g 0, (ln_123 v11_151.toNatClampNeg), .inl (rc_124 v11_151.toNatClampNeg)))], RWs m_98 rr_102 (g 0) ln_99 rc_100, RWx m_122 v11_151.toNatClampNeg rr_126 (g 0) ln_123 rc_124, offS ad_170 tp_o0 hd_o0 tf_o0 cf_o0 g o_171, offS ad_155 tp_o8 hd_o8 tf_o8 cf_o8 g o_153] 8 [0, 1, 6, 7, 2, 3, 4, 5] rfl rfl (by decide) hP hD
                                  have hP : va_P (dC, dI) vwCl ([(a_r_, .inl (g 0, n_r_, .inl r__93)), (a_q_110, .inl (g 3, 8, .inr (.inr (.inr (.inr (rowf m_122 rr_126)))))), (a_q_172, .inl (g 0, n_173, .inl q_174)), ((rr_126 v11_151.toNatClampNeg), .inl (g 0, (ln_123 v11_151.toNatClampNeg), .inl (rc_124 v11_151.toNatClampNeg)))] ++ (RWs m_98 rr_102 (g 0) ln_99 rc_100 ++ (RWx m_122 v11_151.toNatClampNeg rr_126 (g 0) ln_123 rc_124 ++ (offS ad_170 tp_o0 hd_o0 tf_o0 cf_o0 g o_171 ++ (offS ad_155 tp_o8 hd_o8 tf_o8 cf_o8 g o_153))))) H_178 := hP
                                  have hD : va_D A ([(a_r_, .inl (g 0, n_r_, .inl r__93)), (a_q_110, .inl (g 3, 8, .inr (.inr (.inr (.inr (rowf m_122 rr_126)))))), (a_q_172, .inl (g 0, n_173, .inl q_174)), ((rr_126 v11_151.toNatClampNeg), .inl (g 0, (ln_123 v11_151.toNatClampNeg), .inl (rc_124 v11_151.toNatClampNeg)))] ++ (RWs m_98 rr_102 (g 0) ln_99 rc_100 ++ (RWx m_122 v11_151.toNatClampNeg rr_126 (g 0) ln_123 rc_124 ++ (offS ad_170 tp_o0 hd_o0 tf_o0 cf_o0 g o_171 ++ (offS ad_155 tp_o8 hd_o8 tf_o8 cf_o8 g o_153))))) := hD
                                  obtain ⟨hPs, hDs⟩ := seg_call (segs := [[(a_r_, .inl (g 0, n_r_, .inl r__93))], [(a_q_110, .inl (g 3, 8, .inr (.inr (.inr (.inr (rowf m_122 rr_126))))))], [(a_q_172, .inl (g 0, n_173, .inl q_174))], [((rr_126 v11_151.toNatClampNeg), .inl (g 0, (ln_123 v11_151.toNatClampNeg), .inl (rc_124 v11_151.toNatClampNeg)))], RWs m_98 rr_102 (g 0) ln_99 rc_100, RWx m_122 v11_151.toNatClampNeg rr_126 (g 0) ln_123 rc_124, offS ad_170 tp_o0 hd_o0 tf_o0 cf_o0 g o_171, offS ad_155 tp_o8 hd_o8 tf_o8 cf_o8 g o_153]) [[(a_r_, .inl (g 0, n_r_, .inl r__93))], [(a_q_110, .inl (g 3, 8, .inr (.inr (.inr (.inr (rowf m_122 rr_126))))))], [(a_q_172, .inl (g 0, n_173, .inl q_174))], RWs m_98 rr_102 (g 0) ln_99 rc_100, offS ad_170 tp_o0 hd_o0 tf_o0 cf_o0 g o_171, offS ad_155 tp_o8 hd_o8 tf_o8 cf_o8 g o_153] [[((rr_126 v11_151.toNatClampNeg), .inl (g 0, (ln_123 v11_151.toNatClampNeg), .inl (rc_124 v11_151.toNatClampNeg)))], RWx m_122 v11_151.toNatClampNeg rr_126 (g 0) ln_123 rc_124] 8 [0, 1, 2, 4, 6, 7, 3, 5] rfl rfl (by decide) hP hD
                                  have hPs := P_perm (List.Perm.append_left _ (RW_join (m := m_122) (j := v11_151.toNatClampNeg) (r := rr_126) (ln := ln_123) (c0 := g 0) (c := rc_124) (f := (rc_124 v11_151.toNatClampNeg)) (vp_lt hj_177))) hPs
                                  have hDs := D_perm (List.Perm.append_left _ (RW_join (m := m_122) (j := v11_151.toNatClampNeg) (r := rr_126) (ln := ln_123) (c0 := g 0) (c := rc_124) (f := (rc_124 v11_151.toNatClampNeg)) (vp_lt hj_177))) hDs
                                  rw [va_up_id] at hPs hDs
                                  obtain ⟨hP, hD⟩ := seg_join [[(a_r_, .inl (g 0, n_r_, .inl r__93))], [(a_q_110, .inl (g 3, 8, .inr (.inr (.inr (.inr (rowf m_122 rr_126))))))], [(a_q_172, .inl (g 0, n_173, .inl q_174))], RWs m_98 rr_102 (g 0) ln_99 rc_100, offS ad_170 tp_o0 hd_o0 tf_o0 cf_o0 g o_171, offS ad_155 tp_o8 hd_o8 tf_o8 cf_o8 g o_153] [RWs m_122 rr_126 (g 0) ln_123 rc_124] [[(a_r_, .inl (g 0, n_r_, .inl r__93))], [(a_q_110, .inl (g 3, 8, .inr (.inr (.inr (.inr (rowf m_122 rr_126))))))], [(a_q_172, .inl (g 0, n_173, .inl q_174))], RWs m_98 rr_102 (g 0) ln_99 rc_100, RWs m_122 rr_126 (g 0) ln_123 rc_124, offS ad_170 tp_o0 hd_o0 tf_o0 cf_o0 g o_171, offS ad_155 tp_o8 hd_o8 tf_o8 cf_o8 g o_153] 7 [0, 1, 2, 3, 6, 4, 5] rfl rfl (by decide) hPs hDs
                                  have hP : va_P (dC, dI) vwCl ([(a_r_, .inl (g 0, n_r_, .inl r__93)), (a_q_110, .inl (g 3, 8, .inr (.inr (.inr (.inr (rowf m_122 rr_126)))))), (a_q_172, .inl (g 0, n_173, .inl q_174))] ++ (RWs m_98 rr_102 (g 0) ln_99 rc_100 ++ (RWs m_122 rr_126 (g 0) ln_123 rc_124 ++ (offS ad_170 tp_o0 hd_o0 tf_o0 cf_o0 g o_171 ++ (offS ad_155 tp_o8 hd_o8 tf_o8 cf_o8 g o_153))))) H_178 := hP
                                  have hD : va_D A ([(a_r_, .inl (g 0, n_r_, .inl r__93)), (a_q_110, .inl (g 3, 8, .inr (.inr (.inr (.inr (rowf m_122 rr_126)))))), (a_q_172, .inl (g 0, n_173, .inl q_174))] ++ (RWs m_98 rr_102 (g 0) ln_99 rc_100 ++ (RWs m_122 rr_126 (g 0) ln_123 rc_124 ++ (offS ad_170 tp_o0 hd_o0 tf_o0 cf_o0 g o_171 ++ (offS ad_155 tp_o8 hd_o8 tf_o8 cf_o8 g o_153))))) := hD
                                  refine W.widen (k := (kb403 + 204)) (n := (nb403 + 1418)) (by omega) (by omega) ?_
                                  refine lv_if_ne (tgt := 456) hx hb dL_isProgram_451 (by decide) (fun c_179 => ?_) (fun c_179 => ?_)
                                  · have hw := hw.2 (b2i_1 c_179)
                                    obtain ⟨x_180, ex_180⟩ : ∃ y : Int32, y = v11_151 + 1 := ⟨_, rfl⟩
                                    have hw := hw x_180 ex_180
                                    refine lv_iinc (v := x_180) (lv' := [(11, .int x_180), (1, .ref t_o0), (2, .ref t_o8), (8, .ref a_q_110), (9, .int v9_134), (10, .int (b2i v10_132))]) hx hb dL_isProgram_456 hl (k := 5) rfl (by rw [ex_180]; rfl) (by decide) rfl (fun ls hl => ?_)
                                    refine lv_goto (tgt := 403) hx hb dL_isProgram_459 (by decide) ?_
                                    obtain ⟨hP, hD⟩ := seg_sub (segs := [[(a_r_, .inl (g 0, n_r_, .inl r__93))], [(a_q_110, .inl (g 3, 8, .inr (.inr (.inr (.inr (rowf m_122 rr_126))))))], [(a_q_172, .inl (g 0, n_173, .inl q_174))], RWs m_98 rr_102 (g 0) ln_99 rc_100, RWs m_122 rr_126 (g 0) ln_123 rc_124, offS ad_170 tp_o0 hd_o0 tf_o0 cf_o0 g o_171, offS ad_155 tp_o8 hd_o8 tf_o8 cf_o8 g o_153]) [[(a_r_, .inl (g 0, n_r_, .inl r__93))], [(a_q_110, .inl (g 3, 8, .inr (.inr (.inr (.inr (rowf m_122 rr_126))))))], RWs m_98 rr_102 (g 0) ln_99 rc_100, RWs m_122 rr_126 (g 0) ln_123 rc_124, offS ad_170 tp_o0 hd_o0 tf_o0 cf_o0 g o_171, offS ad_155 tp_o8 hd_o8 tf_o8 cf_o8 g o_153] [[(a_q_172, .inl (g 0, n_173, .inl q_174))]] 7 [0, 1, 3, 4, 5, 6, 2] rfl rfl (by decide) hP hD
                                    refine W.widen (k := (7018 - n403 * 408)) (n := (298325 - n403 * 2836)) (by omega) (by omega) ?_
                                    exact ih403 x_180 o_171 o_153 ad_170 ad_155 had_170 had_155 _ _ hw hP hD hS _ (lv_sub hl [1, 2, 3, 4, 5, 0] rfl)
                                  · have hw := hw.1 (b2i_0 c_179)
                                    obtain ⟨hP, hD⟩ := seg_sub (segs := [[(a_r_, .inl (g 0, n_r_, .inl r__93))], [(a_q_110, .inl (g 3, 8, .inr (.inr (.inr (.inr (rowf m_122 rr_126))))))], [(a_q_172, .inl (g 0, n_173, .inl q_174))], RWs m_98 rr_102 (g 0) ln_99 rc_100, RWs m_122 rr_126 (g 0) ln_123 rc_124, offS ad_170 tp_o0 hd_o0 tf_o0 cf_o0 g o_171, offS ad_155 tp_o8 hd_o8 tf_o8 cf_o8 g o_153]) [[(a_r_, .inl (g 0, n_r_, .inl r__93))], RWs m_98 rr_102 (g 0) ln_99 rc_100, RWs m_122 rr_126 (g 0) ln_123 rc_124, offS ad_170 tp_o0 hd_o0 tf_o0 cf_o0 g o_171, offS ad_155 tp_o8 hd_o8 tf_o8 cf_o8 g o_153] [[(a_q_110, .inl (g 3, 8, .inr (.inr (.inr (.inr (rowf m_122 rr_126))))))], [(a_q_172, .inl (g 0, n_173, .inl q_174))]] 7 [0, 3, 4, 5, 6, 1, 2] rfl rfl (by decide) hP hD
                                    refine W.widen (k := 7018) (n := 298325) (by omega) (by omega) ?_
                                    exact EX403_454 o_171 o_153 ad_170 ad_155 had_170 had_155 _ _ hw hP hD hS _ (lv_sub hl [] rfl)
                                · have hw := hw.1 c_175
                                  refine lv_aload_n hx hb dL_isProgram_434 rfl (lv_at hl 1 rfl) ?_
                                  refine lv_iload hx hb dL_isProgram_435 (lv_at hl 5 rfl) ?_
                                  obtain ⟨hPs, hDs⟩ := seg_call (segs := [[(a_r_, .inl (g 0, n_r_, .inl r__93))], [(a_q_110, .inl (g 3, 8, .inr (.inr (.inr (.inr (rowf m_122 rr_126))))))], [(a_q_172, .inl (g 0, n_173, .inl q_174))], RWs m_98 rr_102 (g 0) ln_99 rc_100, RWs m_122 rr_126 (g 0) ln_123 rc_124, offS ad_170 tp_o0 hd_o0 tf_o0 cf_o0 g o_171, offS ad_155 tp_o8 hd_o8 tf_o8 cf_o8 g o_153]) [[(a_r_, .inl (g 0, n_r_, .inl r__93))], [(a_q_110, .inl (g 3, 8, .inr (.inr (.inr (.inr (rowf m_122 rr_126))))))], [(a_q_172, .inl (g 0, n_173, .inl q_174))], RWs m_98 rr_102 (g 0) ln_99 rc_100, RWs m_122 rr_126 (g 0) ln_123 rc_124, offS ad_170 tp_o0 hd_o0 tf_o0 cf_o0 g o_171] [offS ad_155 tp_o8 hd_o8 tf_o8 cf_o8 g o_153] 7 [0, 1, 2, 3, 4, 5, 6] rfl rfl (by decide) hP hD
                                  have hPc : va_P (dC, dI) vwCl (offS ad_155 tp_o8 hd_o8 tf_o8 cf_o8 g o_153) H_169 := P_r hPs
                                  have hDc : va_D A (offS ad_155 tp_o8 hd_o8 tf_o8 cf_o8 g o_153) := D_r hDs
                                  have hFc : ∀ q, va_A (offS ad_155 tp_o8 hd_o8 tf_o8 cf_o8 g o_153) H_169.size q → A q := A_all hDc hA hS.1
                                  refine va_callq (va_runS (As := [.ref t_o8, .int v11_151]) (rest := [.ref a_q_172]) ⟨hx, hb, hml, hown, hts⟩ (c_L_tape l hlf dC dI g (tp_p_ := tp_o8) (hd_p_ := hd_o8) (tf_p_ := tf_o8) (cf_p_ := cf_o8) (htf_p_ := htf_o8) (hcf_p_ := hcf_o8) (a_p_ := ad_155) (t_p_ := t_o8) (h_p_ := had_155) (o_p_ := o_153) (tape := v11_151) (hw := hw) (sz := H_169.size)) (va_cwS 2 hts (gqS aw_3_158 aw_3_159 aw_1_0 aw_3_160) rfl rfl rfl (by decide +kernel) ⟨Nat.le_of_ble_eq_true rfl, Nat.le_of_ble_eq_true rfl⟩) ⟨PG_blind, PG_call hK hG hS hPc hDc hFc⟩ rfl rfl hl.1 rfl (lv_room (Nat.le_of_ble_eq_true rfl)) dL_isProgram_437 ⟨by rw [hrc]; omega, by rw [hrs]; omega⟩) hS (fun q _ h => hFc q h) hFc (fun r_181 u_181 t_181 H_181 L_181 ht_181 hvm_181 hw_181 hB_181 hz_181 hk_181 hS => ?_)
                                  obtain ⟨ad_182, o_183, a_q_184, n_185, q_186, u_181⟩ := u_181
                                  obtain ⟨rfl, ⟨hw, had_182⟩⟩ := hw_181
                                  rw [ht_181] at hB_181
                                  obtain ⟨hP1, hD1⟩ := hB_181
                                  obtain ⟨hP, hD⟩ := join_r hPs hDs hk_181 hFc hP1 hD1
                                  obtain ⟨hP, hD⟩ := seg_join [[(a_r_, .inl (g 0, n_r_, .inl r__93))], [(a_q_110, .inl (g 3, 8, .inr (.inr (.inr (.inr (rowf m_122 rr_126))))))], [(a_q_172, .inl (g 0, n_173, .inl q_174))], RWs m_98 rr_102 (g 0) ln_99 rc_100, RWs m_122 rr_126 (g 0) ln_123 rc_124, offS ad_170 tp_o0 hd_o0 tf_o0 cf_o0 g o_171] [[(a_q_184, .inl (g 0, n_185, .inl q_186))], offS ad_182 tp_o8 hd_o8 tf_o8 cf_o8 g o_183] [[(a_r_, .inl (g 0, n_r_, .inl r__93))], [(a_q_110, .inl (g 3, 8, .inr (.inr (.inr (.inr (rowf m_122 rr_126))))))], [(a_q_172, .inl (g 0, n_173, .inl q_174))], [(a_q_184, .inl (g 0, n_185, .inl q_186))], RWs m_98 rr_102 (g 0) ln_99 rc_100, RWs m_122 rr_126 (g 0) ln_123 rc_124, offS ad_170 tp_o0 hd_o0 tf_o0 cf_o0 g o_171, offS ad_182 tp_o8 hd_o8 tf_o8 cf_o8 g o_183] 8 [0, 1, 2, 6, 3, 4, 5, 7] rfl rfl (by decide) hP hD
                                  have hP : va_P (dC, dI) vwCl ([(a_r_, .inl (g 0, n_r_, .inl r__93)), (a_q_110, .inl (g 3, 8, .inr (.inr (.inr (.inr (rowf m_122 rr_126)))))), (a_q_172, .inl (g 0, n_173, .inl q_174)), (a_q_184, .inl (g 0, n_185, .inl q_186))] ++ (RWs m_98 rr_102 (g 0) ln_99 rc_100 ++ (RWs m_122 rr_126 (g 0) ln_123 rc_124 ++ (offS ad_170 tp_o0 hd_o0 tf_o0 cf_o0 g o_171 ++ (offS ad_182 tp_o8 hd_o8 tf_o8 cf_o8 g o_183))))) H_181 := hP
                                  have hD : va_D A ([(a_r_, .inl (g 0, n_r_, .inl r__93)), (a_q_110, .inl (g 3, 8, .inr (.inr (.inr (.inr (rowf m_122 rr_126)))))), (a_q_172, .inl (g 0, n_173, .inl q_174)), (a_q_184, .inl (g 0, n_185, .inl q_186))] ++ (RWs m_98 rr_102 (g 0) ln_99 rc_100 ++ (RWs m_122 rr_126 (g 0) ln_123 rc_124 ++ (offS ad_170 tp_o0 hd_o0 tf_o0 cf_o0 g o_171 ++ (offS ad_182 tp_o8 hd_o8 tf_o8 cf_o8 g o_183))))) := hD
                                  refine W.widen (k := (kb403 + 408)) (n := (nb403 + 2836)) (by omega) (by omega) ?_
                                  refine lv_goto (tgt := 448) hx hb dL_isProgram_440 (by decide) ?_
                                  obtain ⟨hPs, hDs⟩ := seg_call (segs := [[(a_r_, .inl (g 0, n_r_, .inl r__93))], [(a_q_110, .inl (g 3, 8, .inr (.inr (.inr (.inr (rowf m_122 rr_126))))))], [(a_q_172, .inl (g 0, n_173, .inl q_174))], [(a_q_184, .inl (g 0, n_185, .inl q_186))], RWs m_98 rr_102 (g 0) ln_99 rc_100, RWs m_122 rr_126 (g 0) ln_123 rc_124, offS ad_170 tp_o0 hd_o0 tf_o0 cf_o0 g o_171, offS ad_182 tp_o8 hd_o8 tf_o8 cf_o8 g o_183]) [[(a_r_, .inl (g 0, n_r_, .inl r__93))], [(a_q_110, .inl (g 3, 8, .inr (.inr (.inr (.inr (rowf m_122 rr_126))))))], RWs m_98 rr_102 (g 0) ln_99 rc_100, RWs m_122 rr_126 (g 0) ln_123 rc_124, offS ad_170 tp_o0 hd_o0 tf_o0 cf_o0 g o_171, offS ad_182 tp_o8 hd_o8 tf_o8 cf_o8 g o_183] [[(a_q_172, .inl (g 0, n_173, .inl q_174))], [(a_q_184, .inl (g 0, n_185, .inl q_186))]] 8 [0, 1, 4, 5, 6, 7, 2, 3] rfl rfl (by decide) hP hD
                                  have hPc : va_P (dC, dI) vwCl [(a_q_172, .inl (g 0, n_173, .inl q_174)), (a_q_184, .inl (g 0, n_185, .inl q_186))] H_181 := P_r hPs
                                  have hDc : va_D A [(a_q_172, .inl (g 0, n_173, .inl q_174)), (a_q_184, .inl (g 0, n_185, .inl q_186))] := D_r hDs
                                  have hFc : ∀ q, va_A [(a_q_172, .inl (g 0, n_173, .inl q_174)), (a_q_184, .inl (g 0, n_185, .inl q_186))] H_181.size q → A q := A_all hDc hA hS.1
                                  refine va_calli (va_runS (As := [.ref a_q_172, .ref a_q_184]) (rest := []) ⟨hx, hb, hml, hown, hts⟩ (c_L_same l hlf dC dI g (a_a_ := a_q_172) (n_a_ := n_173) (a_ := q_174) (a_b_ := a_q_184) (n_b_ := n_185) (b_ := q_186) (hw := hw) (sz := H_181.size)) (va_cwS 2 hts (gqS aw_4_42 aw_4_43 aw_1_0 aw_4_44) rfl rfl rfl (by decide +kernel) ⟨Nat.le_of_ble_eq_true rfl, Nat.le_of_ble_eq_true rfl⟩) ⟨PG_blind, PG_call hK hG hS hPc hDc hFc⟩ rfl rfl hl.1 rfl (lv_room (Nat.le_of_ble_eq_true rfl)) dL_isProgram_448 ⟨by rw [hrc]; omega, by rw [hrs]; omega⟩) hS (fun q _ h => hFc q h) hFc (fun r_187 u_187 t_187 H_187 L_187 ht_187 hvm_187 hw_187 hB_187 hz_187 hk_187 hS => ?_)
                                  obtain ⟨u_187⟩ := u_187
                                  obtain ⟨b_187, rfl, hw⟩ := hw_187
                                  rw [ht_187] at hB_187
                                  obtain ⟨hP1, hD1⟩ := hB_187
                                  obtain ⟨hP, hD⟩ := join_r hPs hDs hk_187 hFc hP1 hD1
                                  obtain ⟨hP, hD⟩ := seg_join [[(a_r_, .inl (g 0, n_r_, .inl r__93))], [(a_q_110, .inl (g 3, 8, .inr (.inr (.inr (.inr (rowf m_122 rr_126))))))], RWs m_98 rr_102 (g 0) ln_99 rc_100, RWs m_122 rr_126 (g 0) ln_123 rc_124, offS ad_170 tp_o0 hd_o0 tf_o0 cf_o0 g o_171, offS ad_182 tp_o8 hd_o8 tf_o8 cf_o8 g o_183] [[(a_q_172, .inl (g 0, n_173, .inl q_174))], [(a_q_184, .inl (g 0, n_185, .inl q_186))]] [[(a_r_, .inl (g 0, n_r_, .inl r__93))], [(a_q_110, .inl (g 3, 8, .inr (.inr (.inr (.inr (rowf m_122 rr_126))))))], [(a_q_172, .inl (g 0, n_173, .inl q_174))], [(a_q_184, .inl (g 0, n_185, .inl q_186))], RWs m_98 rr_102 (g 0) ln_99 rc_100, RWs m_122 rr_126 (g 0) ln_123 rc_124, offS ad_170 tp_o0 hd_o0 tf_o0 cf_o0 g o_171, offS ad_182 tp_o8 hd_o8 tf_o8 cf_o8 g o_183] 8 [0, 1, 6, 7, 2, 3, 4, 5] rfl rfl (by decide) hP hD
                                  have hP : va_P (dC, dI) vwCl ([(a_r_, .inl (g 0, n_r_, .inl r__93)), (a_q_110, .inl (g 3, 8, .inr (.inr (.inr (.inr (rowf m_122 rr_126)))))), (a_q_172, .inl (g 0, n_173, .inl q_174)), (a_q_184, .inl (g 0, n_185, .inl q_186))] ++ (RWs m_98 rr_102 (g 0) ln_99 rc_100 ++ (RWs m_122 rr_126 (g 0) ln_123 rc_124 ++ (offS ad_170 tp_o0 hd_o0 tf_o0 cf_o0 g o_171 ++ (offS ad_182 tp_o8 hd_o8 tf_o8 cf_o8 g o_183))))) H_187 := hP
                                  have hD : va_D A ([(a_r_, .inl (g 0, n_r_, .inl r__93)), (a_q_110, .inl (g 3, 8, .inr (.inr (.inr (.inr (rowf m_122 rr_126)))))), (a_q_172, .inl (g 0, n_173, .inl q_174)), (a_q_184, .inl (g 0, n_185, .inl q_186))] ++ (RWs m_98 rr_102 (g 0) ln_99 rc_100 ++ (RWs m_122 rr_126 (g 0) ln_123 rc_124 ++ (offS ad_170 tp_o0 hd_o0 tf_o0 cf_o0 g o_171 ++ (offS ad_182 tp_o8 hd_o8 tf_o8 cf_o8 g o_183))))) := hD
                                  refine W.widen (k := (kb403 + 408)) (n := (nb403 + 2836)) (by omega) (by omega) ?_
                                  refine lv_if_ne (tgt := 456) hx hb dL_isProgram_451 (by decide) (fun c_188 => ?_) (fun c_188 => ?_)
                                  · have hw := hw.2 (b2i_1 c_188)
                                    obtain ⟨x_189, ex_189⟩ : ∃ y : Int32, y = v11_151 + 1 := ⟨_, rfl⟩
                                    have hw := hw x_189 ex_189
                                    refine lv_iinc (v := x_189) (lv' := [(11, .int x_189), (1, .ref t_o0), (2, .ref t_o8), (8, .ref a_q_110), (9, .int v9_134), (10, .int (b2i v10_132))]) hx hb dL_isProgram_456 hl (k := 5) rfl (by rw [ex_189]; rfl) (by decide) rfl (fun ls hl => ?_)
                                    refine lv_goto (tgt := 403) hx hb dL_isProgram_459 (by decide) ?_
                                    obtain ⟨hP, hD⟩ := seg_sub (segs := [[(a_r_, .inl (g 0, n_r_, .inl r__93))], [(a_q_110, .inl (g 3, 8, .inr (.inr (.inr (.inr (rowf m_122 rr_126))))))], [(a_q_172, .inl (g 0, n_173, .inl q_174))], [(a_q_184, .inl (g 0, n_185, .inl q_186))], RWs m_98 rr_102 (g 0) ln_99 rc_100, RWs m_122 rr_126 (g 0) ln_123 rc_124, offS ad_170 tp_o0 hd_o0 tf_o0 cf_o0 g o_171, offS ad_182 tp_o8 hd_o8 tf_o8 cf_o8 g o_183]) [[(a_r_, .inl (g 0, n_r_, .inl r__93))], [(a_q_110, .inl (g 3, 8, .inr (.inr (.inr (.inr (rowf m_122 rr_126))))))], RWs m_98 rr_102 (g 0) ln_99 rc_100, RWs m_122 rr_126 (g 0) ln_123 rc_124, offS ad_170 tp_o0 hd_o0 tf_o0 cf_o0 g o_171, offS ad_182 tp_o8 hd_o8 tf_o8 cf_o8 g o_183] [[(a_q_172, .inl (g 0, n_173, .inl q_174))], [(a_q_184, .inl (g 0, n_185, .inl q_186))]] 8 [0, 1, 4, 5, 6, 7, 2, 3] rfl rfl (by decide) hP hD
                                    refine W.widen (k := (7018 - n403 * 408)) (n := (298325 - n403 * 2836)) (by omega) (by omega) ?_
                                    exact ih403 x_189 o_171 o_183 ad_170 ad_182 had_170 had_182 _ _ hw hP hD hS _ (lv_sub hl [1, 2, 3, 4, 5, 0] rfl)
                                  · have hw := hw.1 (b2i_0 c_188)
                                    obtain ⟨hP, hD⟩ := seg_sub (segs := [[(a_r_, .inl (g 0, n_r_, .inl r__93))], [(a_q_110, .inl (g 3, 8, .inr (.inr (.inr (.inr (rowf m_122 rr_126))))))], [(a_q_172, .inl (g 0, n_173, .inl q_174))], [(a_q_184, .inl (g 0, n_185, .inl q_186))], RWs m_98 rr_102 (g 0) ln_99 rc_100, RWs m_122 rr_126 (g 0) ln_123 rc_124, offS ad_170 tp_o0 hd_o0 tf_o0 cf_o0 g o_171, offS ad_182 tp_o8 hd_o8 tf_o8 cf_o8 g o_183]) [[(a_r_, .inl (g 0, n_r_, .inl r__93))], RWs m_98 rr_102 (g 0) ln_99 rc_100, RWs m_122 rr_126 (g 0) ln_123 rc_124, offS ad_170 tp_o0 hd_o0 tf_o0 cf_o0 g o_171, offS ad_182 tp_o8 hd_o8 tf_o8 cf_o8 g o_183] [[(a_q_110, .inl (g 3, 8, .inr (.inr (.inr (.inr (rowf m_122 rr_126))))))], [(a_q_172, .inl (g 0, n_173, .inl q_174))], [(a_q_184, .inl (g 0, n_185, .inl q_186))]] 8 [0, 4, 5, 6, 7, 1, 2, 3] rfl rfl (by decide) hP hD
                                    refine W.widen (k := 7018) (n := 298325) (by omega) (by omega) ?_
                                    exact EX403_454 o_171 o_183 ad_170 ad_182 had_170 had_182 _ _ hw hP hD hS _ (lv_sub hl [] rfl)
                              refine lv_icmp_lt (tgt := 422) hx hb dL_isProgram_414 (by decide) (fun c_190 => ?_) (fun c_190 => ?_)
                              · have hw := hw.1 c_190
                                refine W.widen (k := (kb403 + 0)) (n := (nb403 + 0)) (by omega) (by omega) ?_
                                exact JN422  _ _ hw hP hD hS _ (lv_sub hl [0, 1, 2, 3, 4, 5] rfl)
                              · have hw := hw.2 c_190
                                refine lv_iload hx hb dL_isProgram_417 (lv_at hl 4 rfl) ?_
                                refine lv_if_ne (tgt := 456) hx hb dL_isProgram_419 (by decide) (fun c_191 => ?_) (fun c_191 => ?_)
                                · have hw := hw.2 (b2i_1 c_191)
                                  obtain ⟨x_192, ex_192⟩ : ∃ y : Int32, y = v11_151 + 1 := ⟨_, rfl⟩
                                  have hw := hw x_192 ex_192
                                  refine lv_iinc (v := x_192) (lv' := [(11, .int x_192), (1, .ref t_o0), (2, .ref t_o8), (8, .ref a_q_110), (9, .int v9_134), (10, .int (b2i v10_132))]) hx hb dL_isProgram_456 hl (k := 5) rfl (by rw [ex_192]; rfl) (by decide) rfl (fun ls hl => ?_)
                                  refine lv_goto (tgt := 403) hx hb dL_isProgram_459 (by decide) ?_
                                  refine W.widen (k := (7018 - n403 * 408)) (n := (298325 - n403 * 2836)) (by omega) (by omega) ?_
                                  exact ih403 x_192 o_152 o_153 ad_154 ad_155 had_154 had_155 _ _ hw hP hD hS _ (lv_sub hl [1, 2, 3, 4, 5, 0] rfl)
                                · have hw := hw.1 (b2i_0 c_191)
                                  refine W.widen (k := (kb403 + 0)) (n := (nb403 + 0)) (by omega) (by omega) ?_
                                  exact JN422  _ _ hw hP hD hS _ (lv_sub hl [0, 1, 2, 3, 4, 5] rfl)
                        obtain ⟨n403, hle403, hw⟩ := hw
                        refine W.widen (k := (7018 - n403 * 408)) (n := (298325 - n403 * 2836)) (by omega) (by omega) ?_
                        exact LOOP403 n403 hle403 0 o_148 o_133 ad_147 ad_135 had_147 had_135 _ _ hw hP hD hS _ (lv_sub hl [1, 2, 3, 4, 5, 0] rfl)
                      · have hw := hw.2 c_150
                        refine lv_iconst (v := 0) hx hb dL_isProgram_398 (by decide) ?_
                        refine W.widen (k := 7020) (n := 298337) (by omega) (by omega) ?_
                        subst hQM
                        obtain ⟨hP, hD⟩ := seg_sub (segs := [[(a_r_, .inl (g 0, n_r_, .inl r__93))], [(a_q_110, .inl (g 3, 8, .inr (.inr (.inr (.inr (rowf m_122 rr_126))))))], RWs m_98 rr_102 (g 0) ln_99 rc_100, RWs m_122 rr_126 (g 0) ln_123 rc_124, offS ad_147 tp_o0 hd_o0 tf_o0 cf_o0 g o_148, offS ad_135 tp_o8 hd_o8 tf_o8 cf_o8 g o_133]) [[(a_r_, .inl (g 0, n_r_, .inl r__93))]] [[(a_q_110, .inl (g 3, 8, .inr (.inr (.inr (.inr (rowf m_122 rr_126))))))], RWs m_98 rr_102 (g 0) ln_99 rc_100, RWs m_122 rr_126 (g 0) ln_123 rc_124, offS ad_147 tp_o0 hd_o0 tf_o0 cf_o0 g o_148, offS ad_135 tp_o8 hd_o8 tf_o8 cf_o8 g o_133] 6 [0, 1, 2, 3, 4, 5] rfl rfl (by decide) hP hD
                        exact W.zret (v := 0) hx hb hr rfl (fun t ht hW => ⟨⟨_, (r__93, ()), rfl, ⟨false, rfl, hw⟩, ⟨P_at ht hP, hD⟩⟩, hS.F ht⟩) hS.2.2 dL_isProgram_399
                    refine lv_icmp_ne (tgt := 392) hx hb dL_isProgram_384 (by decide) (fun c_193 => ?_) (fun c_193 => ?_)
                    · have hw := hw.2 c_193
                      refine lv_sipush (v := (-20004)) hx hb dL_isProgram_392 (by decide) ?_
                      refine W.widen (k := 3346) (n := 272801) (by omega) (by omega) ?_
                      exact JN395 (-20004) _ _ hw hP hD hS _ (lv_sub hl [1, 2, 4, 5, 6] rfl)
                    · have hw := hw.1 c_193
                      refine lv_iload hx hb dL_isProgram_387 (lv_at hl 3 rfl) ?_
                      refine lv_goto (tgt := 395) hx hb dL_isProgram_389 (by decide) ?_
                      refine W.widen (k := 3346) (n := 272801) (by omega) (by omega) ?_
                      exact JN395 r_58 _ _ hw hP hD hS _ (lv_sub hl [1, 2, 4, 5, 6] rfl)
                  · have hw := hw.2 c_145
                    refine lv_iconst (v := 0) hx hb dL_isProgram_368 (by decide) ?_
                    refine W.widen (k := 7020) (n := 298337) (by omega) (by omega) ?_
                    subst hQM
                    obtain ⟨hP, hD⟩ := seg_sub (segs := [[(a_r_, .inl (g 0, n_r_, .inl r__93))], [(a_q_110, .inl (g 3, 8, .inr (.inr (.inr (.inr (rowf m_122 rr_126))))))], RWs m_98 rr_102 (g 0) ln_99 rc_100, RWs m_122 rr_126 (g 0) ln_123 rc_124, offS ad_142 tp_o0 hd_o0 tf_o0 cf_o0 g o_143, offS ad_135 tp_o8 hd_o8 tf_o8 cf_o8 g o_133]) [[(a_r_, .inl (g 0, n_r_, .inl r__93))]] [[(a_q_110, .inl (g 3, 8, .inr (.inr (.inr (.inr (rowf m_122 rr_126))))))], RWs m_98 rr_102 (g 0) ln_99 rc_100, RWs m_122 rr_126 (g 0) ln_123 rc_124, offS ad_142 tp_o0 hd_o0 tf_o0 cf_o0 g o_143, offS ad_135 tp_o8 hd_o8 tf_o8 cf_o8 g o_133] 6 [0, 1, 2, 3, 4, 5] rfl rfl (by decide) hP hD
                    exact W.zret (v := 0) hx hb hr rfl (fun t ht hW => ⟨⟨_, (r__93, ()), rfl, ⟨false, rfl, hw⟩, ⟨P_at ht hP, hD⟩⟩, hS.F ht⟩) hS.2.2 dL_isProgram_369
                refine lv_icmp_ne (tgt := 360) hx hb dL_isProgram_353 (by decide) (fun c_194 => ?_) (fun c_194 => ?_)
                · have hw := hw.2 c_194
                  refine lv_aload hx hb dL_isProgram_360 (lv_at hl 3 rfl) ?_
                  refine lv_iload hx hb dL_isProgram_362 (lv_at hl 5 rfl) ?_
                  refine va_iald hx hb hK hP 1 0 rfl rfl hw.1 dL_isProgram_364 ?_
                  have hw := hw.2
                  refine lv_topi (fun x_195 ex_195 => ?_)
                  have hw := hw x_195 ex_195
                  obtain ⟨hP, hD⟩ := seg_sub (segs := [[(a_r_, .inl (g 0, n_r_, .inl r__93))], [(a_q_78, .inl (g 0, n_81, .inl q138_97))], [(a_q_110, .inl (g 3, 8, .inr (.inr (.inr (.inr (rowf m_122 rr_126))))))], RWs m_98 rr_102 (g 0) ln_99 rc_100, RWs m_122 rr_126 (g 0) ln_123 rc_124, offS ad_142 tp_o0 hd_o0 tf_o0 cf_o0 g o_143, offS ad_135 tp_o8 hd_o8 tf_o8 cf_o8 g o_133]) [[(a_r_, .inl (g 0, n_r_, .inl r__93))], [(a_q_110, .inl (g 3, 8, .inr (.inr (.inr (.inr (rowf m_122 rr_126))))))], RWs m_98 rr_102 (g 0) ln_99 rc_100, RWs m_122 rr_126 (g 0) ln_123 rc_124, offS ad_142 tp_o0 hd_o0 tf_o0 cf_o0 g o_143, offS ad_135 tp_o8 hd_o8 tf_o8 cf_o8 g o_133] [[(a_q_78, .inl (g 0, n_81, .inl q138_97))]] 7 [0, 2, 3, 4, 5, 6, 1] rfl rfl (by decide) hP hD
                  refine W.widen (k := 3345) (n := 272795) (by omega) (by omega) ?_
                  exact JN365 x_195 _ _ hw hP hD hS _ (lv_sub hl [0, 1, 2, 4, 5, 6] rfl)
                · have hw := hw.1 c_194
                  refine lv_iconst (v := (-1)) hx hb dL_isProgram_356 (by decide) ?_
                  refine lv_goto (tgt := 365) hx hb dL_isProgram_357 (by decide) ?_
                  obtain ⟨hP, hD⟩ := seg_sub (segs := [[(a_r_, .inl (g 0, n_r_, .inl r__93))], [(a_q_78, .inl (g 0, n_81, .inl q138_97))], [(a_q_110, .inl (g 3, 8, .inr (.inr (.inr (.inr (rowf m_122 rr_126))))))], RWs m_98 rr_102 (g 0) ln_99 rc_100, RWs m_122 rr_126 (g 0) ln_123 rc_124, offS ad_142 tp_o0 hd_o0 tf_o0 cf_o0 g o_143, offS ad_135 tp_o8 hd_o8 tf_o8 cf_o8 g o_133]) [[(a_r_, .inl (g 0, n_r_, .inl r__93))], [(a_q_110, .inl (g 3, 8, .inr (.inr (.inr (.inr (rowf m_122 rr_126))))))], RWs m_98 rr_102 (g 0) ln_99 rc_100, RWs m_122 rr_126 (g 0) ln_123 rc_124, offS ad_142 tp_o0 hd_o0 tf_o0 cf_o0 g o_143, offS ad_135 tp_o8 hd_o8 tf_o8 cf_o8 g o_133] [[(a_q_78, .inl (g 0, n_81, .inl q138_97))]] 7 [0, 2, 3, 4, 5, 6, 1] rfl rfl (by decide) hP hD
                  refine W.widen (k := 3345) (n := 272795) (by omega) (by omega) ?_
                  exact JN365 (-1) _ _ hw hP hD hS _ (lv_sub hl [0, 1, 2, 4, 5, 6] rfl)
            refine lv_icmp_ne (tgt := 342) hx hb dL_isProgram_335 (by decide) (fun c_196 => ?_) (fun c_196 => ?_)
            · have hw := hw.2 c_196
              refine lv_iconst (v := 3) hx hb dL_isProgram_342 (by decide) ?_
              refine W.widen (k := 3345) (n := 272795) (by omega) (by omega) ?_
              exact JN343 3 _ _ hw hP hD hS _ (lv_sub hl [0, 1, 2, 3, 4, 5, 6] rfl)
            · have hw := hw.1 c_196
              refine lv_iconst (v := 0) hx hb dL_isProgram_338 (by decide) ?_
              refine lv_goto (tgt := 343) hx hb dL_isProgram_339 (by decide) ?_
              refine W.widen (k := 3345) (n := 272795) (by omega) (by omega) ?_
              exact JN343 0 _ _ hw hP hD hS _ (lv_sub hl [0, 1, 2, 3, 4, 5, 6] rfl)
          have LOOP250 : ∀ (n250 : Nat), n250 ≤ 7 → ∀ (v11_127 : Int32) (v10_128 : Bool) (o_129 : OS) (v9_130 : Int32) (ad_131 : Nat → Nat) (had_131 : ad_131 0 = t_o8) (H : Heap) (locs : List Loc), wl_L_isProgram_250 r_58 n_77 m_98 ln_99 rc_100 (wx_L_isProgram_250_328 Q r_58 n_81 r__93 q138_97 o_121 m_122 ln_123 rc_124) n250 v11_127 v10_128 o_129 v9_130 → va_P (dC, dI) vwCl ([(a_r_, .inl (g 0, n_r_, .inl r__93)), (a_q_73, .inl (g 3, n_77, .inr (.inr (.inr (.inr (rowf m_98 rr_102)))))), (a_q_78, .inl (g 0, n_81, .inl q138_97)), (a_q_110, .inl (g 3, 8, .inr (.inr (.inr (.inr (rowf m_122 rr_126))))))] ++ (RWs m_98 rr_102 (g 0) ln_99 rc_100 ++ (RWs m_122 rr_126 (g 0) ln_123 rc_124 ++ (offS ad_125 tp_o0 hd_o0 tf_o0 cf_o0 g o_121 ++ (offS ad_131 tp_o8 hd_o8 tf_o8 cf_o8 g o_129))))) H → va_D A ([(a_r_, .inl (g 0, n_r_, .inl r__93)), (a_q_73, .inl (g 3, n_77, .inr (.inr (.inr (.inr (rowf m_98 rr_102)))))), (a_q_78, .inl (g 0, n_81, .inl q138_97)), (a_q_110, .inl (g 3, 8, .inr (.inr (.inr (.inr (rowf m_122 rr_126))))))] ++ (RWs m_98 rr_102 (g 0) ln_99 rc_100 ++ (RWs m_122 rr_126 (g 0) ln_123 rc_124 ++ (offS ad_125 tp_o0 hd_o0 tf_o0 cf_o0 g o_121 ++ (offS ad_131 tp_o8 hd_o8 tf_o8 cf_o8 g o_129))))) → va_S A s.heap H locs → ∀ (ls : Array Slot), lv_has ls 12 [(1, .ref t_o0), (2, .ref t_o8), (4, .int r_58), (6, .ref a_q_73), (7, .ref a_q_78), (8, .ref a_q_110), (9, .int v9_130), (10, .int (b2i v10_128)), (11, .int v11_127)] → W p l e (headSpec wqL_isProgram ({ frames := 17, cells := 7020, slots := 298337, locals := 274 })).room s m ([.ref a_r_] : List Value).toArray below meth c H locs (3345 - n250 * 114) (272795 - n250 * 683) QM (F0 m 250 ls []) := by
            intro n250
            induction n250 with
            | zero =>
              intro hle_n250
              intro v11_127 v10_128 o_129 v9_130 ad_131 had_131 H locs hw hP hD hS ls hl
              exact False.elim hw
            | succ n250 ih250 =>
              intro hle_n250
              have ih250 := ih250 (by omega)
              intro v11_127 v10_128 o_129 v9_130 ad_131 had_131 H locs hw hP hD hS ls hl
              rw [wl_L_isProgram_250_s] at hw
              obtain ⟨kb250, hkb250⟩ : ∃ x : Nat, x = 3345 - (n250 + 1) * 114 := ⟨_, rfl⟩
              obtain ⟨nb250, hnb250⟩ : ∃ x : Nat, x = 272795 - (n250 + 1) * 683 := ⟨_, rfl⟩
              refine W.widen (k := kb250) (n := nb250) (by omega) (by omega) ?_
              refine lv_iload hx hb dL_isProgram_250 (lv_at hl 8 rfl) ?_
              refine lv_iload hx hb dL_isProgram_252 (lv_at hl 2 rfl) ?_
              refine lv_icmp_ge (tgt := 328) hx hb dL_isProgram_254 (by decide) (fun c_197 => ?_) (fun c_197 => ?_)
              · have hw := hw.1 c_197
                obtain ⟨hP, hD⟩ := seg_sub (segs := [[(a_r_, .inl (g 0, n_r_, .inl r__93))], [(a_q_73, .inl (g 3, n_77, .inr (.inr (.inr (.inr (rowf m_98 rr_102))))))], [(a_q_78, .inl (g 0, n_81, .inl q138_97))], [(a_q_110, .inl (g 3, 8, .inr (.inr (.inr (.inr (rowf m_122 rr_126))))))], RWs m_98 rr_102 (g 0) ln_99 rc_100, RWs m_122 rr_126 (g 0) ln_123 rc_124, offS ad_125 tp_o0 hd_o0 tf_o0 cf_o0 g o_121, offS ad_131 tp_o8 hd_o8 tf_o8 cf_o8 g o_129]) [[(a_r_, .inl (g 0, n_r_, .inl r__93))], [(a_q_78, .inl (g 0, n_81, .inl q138_97))], [(a_q_110, .inl (g 3, 8, .inr (.inr (.inr (.inr (rowf m_122 rr_126))))))], RWs m_98 rr_102 (g 0) ln_99 rc_100, RWs m_122 rr_126 (g 0) ln_123 rc_124, offS ad_125 tp_o0 hd_o0 tf_o0 cf_o0 g o_121, offS ad_131 tp_o8 hd_o8 tf_o8 cf_o8 g o_129] [[(a_q_73, .inl (g 3, n_77, .inr (.inr (.inr (.inr (rowf m_98 rr_102))))))]] 8 [0, 2, 3, 4, 5, 6, 7, 1] rfl rfl (by decide) hP hD
                refine W.widen (k := 3345) (n := 272795) (by omega) (by omega) ?_
                exact EX250_328 v10_128 o_129 v9_130 ad_131 had_131 _ _ hw hP hD hS _ (lv_sub hl [0, 1, 2, 4, 5, 6, 7] rfl)
              · have hw := hw.2 c_197
                refine lv_iload hx hb dL_isProgram_257 (lv_at hl 6 rfl) ?_
                refine lv_iconst (v := (-1)) hx hb dL_isProgram_259 (by decide) ?_
                refine lv_icmp_ne (tgt := 328) hx hb dL_isProgram_260 (by decide) (fun c_198 => ?_) (fun c_198 => ?_)
                · have hw := hw.2 c_198
                  obtain ⟨hP, hD⟩ := seg_sub (segs := [[(a_r_, .inl (g 0, n_r_, .inl r__93))], [(a_q_73, .inl (g 3, n_77, .inr (.inr (.inr (.inr (rowf m_98 rr_102))))))], [(a_q_78, .inl (g 0, n_81, .inl q138_97))], [(a_q_110, .inl (g 3, 8, .inr (.inr (.inr (.inr (rowf m_122 rr_126))))))], RWs m_98 rr_102 (g 0) ln_99 rc_100, RWs m_122 rr_126 (g 0) ln_123 rc_124, offS ad_125 tp_o0 hd_o0 tf_o0 cf_o0 g o_121, offS ad_131 tp_o8 hd_o8 tf_o8 cf_o8 g o_129]) [[(a_r_, .inl (g 0, n_r_, .inl r__93))], [(a_q_78, .inl (g 0, n_81, .inl q138_97))], [(a_q_110, .inl (g 3, 8, .inr (.inr (.inr (.inr (rowf m_122 rr_126))))))], RWs m_98 rr_102 (g 0) ln_99 rc_100, RWs m_122 rr_126 (g 0) ln_123 rc_124, offS ad_125 tp_o0 hd_o0 tf_o0 cf_o0 g o_121, offS ad_131 tp_o8 hd_o8 tf_o8 cf_o8 g o_129] [[(a_q_73, .inl (g 3, n_77, .inr (.inr (.inr (.inr (rowf m_98 rr_102))))))]] 8 [0, 2, 3, 4, 5, 6, 7, 1] rfl rfl (by decide) hP hD
                  refine W.widen (k := 3345) (n := 272795) (by omega) (by omega) ?_
                  exact EX250_328 v10_128 o_129 v9_130 ad_131 had_131 _ _ hw hP hD hS _ (lv_sub hl [0, 1, 2, 4, 5, 6, 7] rfl)
                · have hw := hw.1 c_198
                  refine lv_iload hx hb dL_isProgram_263 (lv_at hl 7 rfl) ?_
                  refine lv_aload hx hb dL_isProgram_265 (lv_at hl 3 rfl) ?_
                  refine lv_iload hx hb dL_isProgram_267 (lv_at hl 8 rfl) ?_
                  obtain ⟨hi_199, hj_200, hw⟩ := hw
                  refine va_aldA hx hb hK hP 1 rfl hi_199 dL_isProgram_269 ?_
                  refine W.eq (g2 := F0 m 270 ls (.ref (rr_102 v11_127.toNatClampNeg) :: [.int (b2i v10_128)])) (by rw [rowf_at (vp_lt hj_200)]; rfl) ?_
                  refine lv_iconst (v := 0) hx hb dL_isProgram_270 (by decide) ?_
                  obtain ⟨hi_201, hw⟩ := hw
                  obtain ⟨k_202, hk_202⟩ := List.mem_iff_getElem?.mp (show _ ∈ ([(a_r_, .inl (g 0, n_r_, .inl r__93)), (a_q_73, .inl (g 3, n_77, .inr (.inr (.inr (.inr (rowf m_98 rr_102)))))), (a_q_78, .inl (g 0, n_81, .inl q138_97)), (a_q_110, .inl (g 3, 8, .inr (.inr (.inr (.inr (rowf m_122 rr_126))))))] ++ (RWs m_98 rr_102 (g 0) ln_99 rc_100 ++ (RWs m_122 rr_126 (g 0) ln_123 rc_124 ++ (offS ad_125 tp_o0 hd_o0 tf_o0 cf_o0 g o_121 ++ (offS ad_131 tp_o8 hd_o8 tf_o8 cf_o8 g o_129))))) from (List.mem_append_right _ (List.mem_append_left _ (RW_mem (vp_lt hj_200)))))
                  refine va_iald hx hb hK hP k_202 0 hk_202 rfl hi_201 dL_isProgram_271 ?_
                  refine lv_topi (fun x_203 ex_203 => ?_)
                  have hw := hw x_203 ex_203
                  have JN303 : ∀ (sk0_204 : Bool) (H : Heap) (locs : List Loc), (wj_L_isProgram_303 n_77 m_98 ln_99 rc_100 v11_127 v10_128 o_129 v9_130 (wl_L_isProgram_250 r_58 n_77 m_98 ln_99 rc_100 (wx_L_isProgram_250_328 Q r_58 n_81 r__93 q138_97 o_121 m_122 ln_123 rc_124) n250)) sk0_204 → va_P (dC, dI) vwCl ([(a_r_, .inl (g 0, n_r_, .inl r__93)), (a_q_73, .inl (g 3, n_77, .inr (.inr (.inr (.inr (rowf m_98 rr_102)))))), (a_q_78, .inl (g 0, n_81, .inl q138_97)), (a_q_110, .inl (g 3, 8, .inr (.inr (.inr (.inr (rowf m_122 rr_126))))))] ++ (RWs m_98 rr_102 (g 0) ln_99 rc_100 ++ (RWs m_122 rr_126 (g 0) ln_123 rc_124 ++ (offS ad_125 tp_o0 hd_o0 tf_o0 cf_o0 g o_121 ++ (offS ad_131 tp_o8 hd_o8 tf_o8 cf_o8 g o_129))))) H → va_D A ([(a_r_, .inl (g 0, n_r_, .inl r__93)), (a_q_73, .inl (g 3, n_77, .inr (.inr (.inr (.inr (rowf m_98 rr_102)))))), (a_q_78, .inl (g 0, n_81, .inl q138_97)), (a_q_110, .inl (g 3, 8, .inr (.inr (.inr (.inr (rowf m_122 rr_126))))))] ++ (RWs m_98 rr_102 (g 0) ln_99 rc_100 ++ (RWs m_122 rr_126 (g 0) ln_123 rc_124 ++ (offS ad_125 tp_o0 hd_o0 tf_o0 cf_o0 g o_121 ++ (offS ad_131 tp_o8 hd_o8 tf_o8 cf_o8 g o_129))))) → va_S A s.heap H locs → ∀ (ls : Array Slot), lv_has ls 12 [(1, .ref t_o0), (2, .ref t_o8), (4, .int r_58), (6, .ref a_q_73), (7, .ref a_q_78), (8, .ref a_q_110), (9, .int v9_130), (11, .int v11_127)] → W p l e (headSpec wqL_isProgram ({ frames := 17, cells := 7020, slots := 298337, locals := 274 })).room s m ([.ref a_r_] : List Value).toArray below meth c H locs (kb250 + 0) (nb250 + 0) QM (F0 m 303 ls [.int (b2i sk0_204), .int (b2i v10_128)]) := by
                    intro sk0_204 H locs hw hP hD hS ls hl
                    refine lv_ior hx hb dL_isProgram_303 ?_
                    refine W.eq (g2 := F0 m 304 ls [.int (b2i (v10_128 || sk0_204))]) (congrArg (fun z => F0 m 304 ls (.int z :: [])) (b2i_or v10_128 sk0_204)) ?_
                    refine lv_istore (lv' := [(10, .int (b2i (v10_128 || sk0_204))), (1, .ref t_o0), (2, .ref t_o8), (4, .int r_58), (6, .ref a_q_73), (7, .ref a_q_78), (8, .ref a_q_110), (9, .int v9_130), (11, .int v11_127)]) hx hb dL_isProgram_304 hl (by decide) rfl (fun ls hl => ?_)
                    refine lv_aload_n hx hb dL_isProgram_306 rfl (lv_at hl 2 rfl) ?_
                    refine lv_aload hx hb dL_isProgram_307 (lv_at hl 4 rfl) ?_
                    refine lv_iload hx hb dL_isProgram_309 (lv_at hl 8 rfl) ?_
                    obtain ⟨hi_205, hj_206, hw⟩ := hw
                    refine va_aldA hx hb hK hP 1 rfl hi_205 dL_isProgram_311 ?_
                    refine W.eq (g2 := F0 m 312 ls (.ref (rr_102 v11_127.toNatClampNeg) :: [.ref t_o8])) (by rw [rowf_at (vp_lt hj_206)]; rfl) ?_
                    obtain ⟨hPs, hDs⟩ := seg_call (segs := [[(a_r_, .inl (g 0, n_r_, .inl r__93))], [(a_q_73, .inl (g 3, n_77, .inr (.inr (.inr (.inr (rowf m_98 rr_102))))))], [(a_q_78, .inl (g 0, n_81, .inl q138_97))], [(a_q_110, .inl (g 3, 8, .inr (.inr (.inr (.inr (rowf m_122 rr_126))))))], RWs m_98 rr_102 (g 0) ln_99 rc_100, RWs m_122 rr_126 (g 0) ln_123 rc_124, offS ad_125 tp_o0 hd_o0 tf_o0 cf_o0 g o_121, offS ad_131 tp_o8 hd_o8 tf_o8 cf_o8 g o_129]) [[(a_r_, .inl (g 0, n_r_, .inl r__93))], [(a_q_73, .inl (g 3, n_77, .inr (.inr (.inr (.inr (rowf m_98 rr_102))))))], [(a_q_78, .inl (g 0, n_81, .inl q138_97))], [(a_q_110, .inl (g 3, 8, .inr (.inr (.inr (.inr (rowf m_122 rr_126))))))], RWs m_122 rr_126 (g 0) ln_123 rc_124, offS ad_125 tp_o0 hd_o0 tf_o0 cf_o0 g o_121, offS ad_131 tp_o8 hd_o8 tf_o8 cf_o8 g o_129] [RWs m_98 rr_102 (g 0) ln_99 rc_100] 8 [0, 1, 2, 3, 5, 6, 7, 4] rfl rfl (by decide) hP hD
                    have hPs := P_perm (List.Perm.append_left _ (RW_split (m := m_98) (j := v11_127.toNatClampNeg) (r := rr_102) (ln := ln_99) (c0 := g 0) (c := rc_100) (vp_lt hj_206))) hPs
                    have hDs := D_perm (List.Perm.append_left _ (RW_split (m := m_98) (j := v11_127.toNatClampNeg) (r := rr_102) (ln := ln_99) (c0 := g 0) (c := rc_100) (vp_lt hj_206))) hDs
                    obtain ⟨hP, hD⟩ := seg_join [[(a_r_, .inl (g 0, n_r_, .inl r__93))], [(a_q_73, .inl (g 3, n_77, .inr (.inr (.inr (.inr (rowf m_98 rr_102))))))], [(a_q_78, .inl (g 0, n_81, .inl q138_97))], [(a_q_110, .inl (g 3, 8, .inr (.inr (.inr (.inr (rowf m_122 rr_126))))))], RWs m_122 rr_126 (g 0) ln_123 rc_124, offS ad_125 tp_o0 hd_o0 tf_o0 cf_o0 g o_121, offS ad_131 tp_o8 hd_o8 tf_o8 cf_o8 g o_129] [[((rr_102 v11_127.toNatClampNeg), .inl (g 0, (ln_99 v11_127.toNatClampNeg), .inl (rc_100 v11_127.toNatClampNeg)))], RWx m_98 v11_127.toNatClampNeg rr_102 (g 0) ln_99 rc_100] [[(a_r_, .inl (g 0, n_r_, .inl r__93))], [(a_q_73, .inl (g 3, n_77, .inr (.inr (.inr (.inr (rowf m_98 rr_102))))))], [(a_q_78, .inl (g 0, n_81, .inl q138_97))], [(a_q_110, .inl (g 3, 8, .inr (.inr (.inr (.inr (rowf m_122 rr_126))))))], [((rr_102 v11_127.toNatClampNeg), .inl (g 0, (ln_99 v11_127.toNatClampNeg), .inl (rc_100 v11_127.toNatClampNeg)))], RWx m_98 v11_127.toNatClampNeg rr_102 (g 0) ln_99 rc_100, RWs m_122 rr_126 (g 0) ln_123 rc_124, offS ad_125 tp_o0 hd_o0 tf_o0 cf_o0 g o_121, offS ad_131 tp_o8 hd_o8 tf_o8 cf_o8 g o_129] 9 [0, 1, 2, 3, 7, 8, 4, 5, 6] rfl rfl (by decide) hPs hDs
                    have hP : va_P (dC, dI) vwCl ([(a_r_, .inl (g 0, n_r_, .inl r__93)), (a_q_73, .inl (g 3, n_77, .inr (.inr (.inr (.inr (rowf m_98 rr_102)))))), (a_q_78, .inl (g 0, n_81, .inl q138_97)), (a_q_110, .inl (g 3, 8, .inr (.inr (.inr (.inr (rowf m_122 rr_126)))))), ((rr_102 v11_127.toNatClampNeg), .inl (g 0, (ln_99 v11_127.toNatClampNeg), .inl (rc_100 v11_127.toNatClampNeg)))] ++ (RWx m_98 v11_127.toNatClampNeg rr_102 (g 0) ln_99 rc_100 ++ (RWs m_122 rr_126 (g 0) ln_123 rc_124 ++ (offS ad_125 tp_o0 hd_o0 tf_o0 cf_o0 g o_121 ++ (offS ad_131 tp_o8 hd_o8 tf_o8 cf_o8 g o_129))))) H := hP
                    have hD : va_D A ([(a_r_, .inl (g 0, n_r_, .inl r__93)), (a_q_73, .inl (g 3, n_77, .inr (.inr (.inr (.inr (rowf m_98 rr_102)))))), (a_q_78, .inl (g 0, n_81, .inl q138_97)), (a_q_110, .inl (g 3, 8, .inr (.inr (.inr (.inr (rowf m_122 rr_126)))))), ((rr_102 v11_127.toNatClampNeg), .inl (g 0, (ln_99 v11_127.toNatClampNeg), .inl (rc_100 v11_127.toNatClampNeg)))] ++ (RWx m_98 v11_127.toNatClampNeg rr_102 (g 0) ln_99 rc_100 ++ (RWs m_122 rr_126 (g 0) ln_123 rc_124 ++ (offS ad_125 tp_o0 hd_o0 tf_o0 cf_o0 g o_121 ++ (offS ad_131 tp_o8 hd_o8 tf_o8 cf_o8 g o_129))))) := hD
                    obtain ⟨hPs, hDs⟩ := seg_call (segs := [[(a_r_, .inl (g 0, n_r_, .inl r__93))], [(a_q_73, .inl (g 3, n_77, .inr (.inr (.inr (.inr (rowf m_98 rr_102))))))], [(a_q_78, .inl (g 0, n_81, .inl q138_97))], [(a_q_110, .inl (g 3, 8, .inr (.inr (.inr (.inr (rowf m_122 rr_126))))))], [((rr_102 v11_127.toNatClampNeg), .inl (g 0, (ln_99 v11_127.toNatClampNeg), .inl (rc_100 v11_127.toNatClampNeg)))], RWx m_98 v11_127.toNatClampNeg rr_102 (g 0) ln_99 rc_100, RWs m_122 rr_126 (g 0) ln_123 rc_124, offS ad_125 tp_o0 hd_o0 tf_o0 cf_o0 g o_121, offS ad_131 tp_o8 hd_o8 tf_o8 cf_o8 g o_129]) [[(a_r_, .inl (g 0, n_r_, .inl r__93))], [(a_q_73, .inl (g 3, n_77, .inr (.inr (.inr (.inr (rowf m_98 rr_102))))))], [(a_q_78, .inl (g 0, n_81, .inl q138_97))], [(a_q_110, .inl (g 3, 8, .inr (.inr (.inr (.inr (rowf m_122 rr_126))))))], RWx m_98 v11_127.toNatClampNeg rr_102 (g 0) ln_99 rc_100, RWs m_122 rr_126 (g 0) ln_123 rc_124, offS ad_125 tp_o0 hd_o0 tf_o0 cf_o0 g o_121] [[((rr_102 v11_127.toNatClampNeg), .inl (g 0, (ln_99 v11_127.toNatClampNeg), .inl (rc_100 v11_127.toNatClampNeg)))], offS ad_131 tp_o8 hd_o8 tf_o8 cf_o8 g o_129] 9 [0, 1, 2, 3, 5, 6, 7, 4, 8] rfl rfl (by decide) hP hD
                    have hPc : va_P (dC, dI) vwCl ([((rr_102 v11_127.toNatClampNeg), .inl (g 0, (ln_99 v11_127.toNatClampNeg), .inl (rc_100 v11_127.toNatClampNeg)))] ++ (offS ad_131 tp_o8 hd_o8 tf_o8 cf_o8 g o_129)) H := P_r hPs
                    have hDc : va_D A ([((rr_102 v11_127.toNatClampNeg), .inl (g 0, (ln_99 v11_127.toNatClampNeg), .inl (rc_100 v11_127.toNatClampNeg)))] ++ (offS ad_131 tp_o8 hd_o8 tf_o8 cf_o8 g o_129)) := D_r hDs
                    have hFc : ∀ q, va_A ([((rr_102 v11_127.toNatClampNeg), .inl (g 0, (ln_99 v11_127.toNatClampNeg), .inl (rc_100 v11_127.toNatClampNeg)))] ++ (offS ad_131 tp_o8 hd_o8 tf_o8 cf_o8 g o_129)) H.size q → A q := A_all hDc hA hS.1
                    refine va_calli (va_runS (As := [.ref t_o8, .ref (rr_102 v11_127.toNatClampNeg)]) (rest := []) ⟨hx, hb, hml, hown, hts⟩ (c_L_does l hlf dC dI g (tp_q_ := tp_o8) (hd_q_ := hd_o8) (tf_q_ := tf_o8) (cf_q_ := cf_o8) (htf_q_ := htf_o8) (hcf_q_ := hcf_o8) (a_q_ := ad_131) (t_q_ := t_o8) (h_q_ := had_131) (o_q_ := o_129) (a_d_ := (rr_102 v11_127.toNatClampNeg)) (n_d_ := (ln_99 v11_127.toNatClampNeg)) (d_ := (rc_100 v11_127.toNatClampNeg)) (hw := hw) (sz := H.size)) (va_cwS 2 hts (gqS aw_7_173 aw_7_174 aw_1_0 aw_7_175) rfl rfl rfl (by decide +kernel) ⟨Nat.le_of_ble_eq_true rfl, Nat.le_of_ble_eq_true rfl⟩) ⟨PG_blind, PG_call hK hG hS hPc hDc hFc⟩ rfl rfl hl.1 rfl (lv_room (Nat.le_of_ble_eq_true rfl)) dL_isProgram_312 ⟨by rw [hrc]; omega, by rw [hrs]; omega⟩) hS (fun q _ h => hFc q h) hFc (fun r_207 u_207 t_207 H_207 L_207 ht_207 hvm_207 hw_207 hB_207 hz_207 hk_207 hS => ?_)
                    obtain ⟨ad_208, o_209, u_207⟩ := u_207
                    obtain ⟨b_207, rfl, ⟨hw, had_208⟩⟩ := hw_207
                    rw [ht_207] at hB_207
                    obtain ⟨hP1, hD1⟩ := hB_207
                    obtain ⟨hP, hD⟩ := join_r hPs hDs hk_207 hFc hP1 hD1
                    obtain ⟨hP, hD⟩ := seg_join [[(a_r_, .inl (g 0, n_r_, .inl r__93))], [(a_q_73, .inl (g 3, n_77, .inr (.inr (.inr (.inr (rowf m_98 rr_102))))))], [(a_q_78, .inl (g 0, n_81, .inl q138_97))], [(a_q_110, .inl (g 3, 8, .inr (.inr (.inr (.inr (rowf m_122 rr_126))))))], RWx m_98 v11_127.toNatClampNeg rr_102 (g 0) ln_99 rc_100, RWs m_122 rr_126 (g 0) ln_123 rc_124, offS ad_125 tp_o0 hd_o0 tf_o0 cf_o0 g o_121] [[((rr_102 v11_127.toNatClampNeg), .inl (g 0, (ln_99 v11_127.toNatClampNeg), .inl (rc_100 v11_127.toNatClampNeg)))], offS ad_208 tp_o8 hd_o8 tf_o8 cf_o8 g o_209] [[(a_r_, .inl (g 0, n_r_, .inl r__93))], [(a_q_73, .inl (g 3, n_77, .inr (.inr (.inr (.inr (rowf m_98 rr_102))))))], [(a_q_78, .inl (g 0, n_81, .inl q138_97))], [(a_q_110, .inl (g 3, 8, .inr (.inr (.inr (.inr (rowf m_122 rr_126))))))], [((rr_102 v11_127.toNatClampNeg), .inl (g 0, (ln_99 v11_127.toNatClampNeg), .inl (rc_100 v11_127.toNatClampNeg)))], RWx m_98 v11_127.toNatClampNeg rr_102 (g 0) ln_99 rc_100, RWs m_122 rr_126 (g 0) ln_123 rc_124, offS ad_125 tp_o0 hd_o0 tf_o0 cf_o0 g o_121, offS ad_208 tp_o8 hd_o8 tf_o8 cf_o8 g o_209] 9 [0, 1, 2, 3, 7, 4, 5, 6, 8] rfl rfl (by decide) hP hD
                    have hP : va_P (dC, dI) vwCl ([(a_r_, .inl (g 0, n_r_, .inl r__93)), (a_q_73, .inl (g 3, n_77, .inr (.inr (.inr (.inr (rowf m_98 rr_102)))))), (a_q_78, .inl (g 0, n_81, .inl q138_97)), (a_q_110, .inl (g 3, 8, .inr (.inr (.inr (.inr (rowf m_122 rr_126)))))), ((rr_102 v11_127.toNatClampNeg), .inl (g 0, (ln_99 v11_127.toNatClampNeg), .inl (rc_100 v11_127.toNatClampNeg)))] ++ (RWx m_98 v11_127.toNatClampNeg rr_102 (g 0) ln_99 rc_100 ++ (RWs m_122 rr_126 (g 0) ln_123 rc_124 ++ (offS ad_125 tp_o0 hd_o0 tf_o0 cf_o0 g o_121 ++ (offS ad_208 tp_o8 hd_o8 tf_o8 cf_o8 g o_209))))) H_207 := hP
                    have hD : va_D A ([(a_r_, .inl (g 0, n_r_, .inl r__93)), (a_q_73, .inl (g 3, n_77, .inr (.inr (.inr (.inr (rowf m_98 rr_102)))))), (a_q_78, .inl (g 0, n_81, .inl q138_97)), (a_q_110, .inl (g 3, 8, .inr (.inr (.inr (.inr (rowf m_122 rr_126)))))), ((rr_102 v11_127.toNatClampNeg), .inl (g 0, (ln_99 v11_127.toNatClampNeg), .inl (rc_100 v11_127.toNatClampNeg)))] ++ (RWx m_98 v11_127.toNatClampNeg rr_102 (g 0) ln_99 rc_100 ++ (RWs m_122 rr_126 (g 0) ln_123 rc_124 ++ (offS ad_125 tp_o0 hd_o0 tf_o0 cf_o0 g o_121 ++ (offS ad_208 tp_o8 hd_o8 tf_o8 cf_o8 g o_209))))) := hD
                    obtain ⟨hPs, hDs⟩ := seg_call (segs := [[(a_r_, .inl (g 0, n_r_, .inl r__93))], [(a_q_73, .inl (g 3, n_77, .inr (.inr (.inr (.inr (rowf m_98 rr_102))))))], [(a_q_78, .inl (g 0, n_81, .inl q138_97))], [(a_q_110, .inl (g 3, 8, .inr (.inr (.inr (.inr (rowf m_122 rr_126))))))], [((rr_102 v11_127.toNatClampNeg), .inl (g 0, (ln_99 v11_127.toNatClampNeg), .inl (rc_100 v11_127.toNatClampNeg)))], RWx m_98 v11_127.toNatClampNeg rr_102 (g 0) ln_99 rc_100, RWs m_122 rr_126 (g 0) ln_123 rc_124, offS ad_125 tp_o0 hd_o0 tf_o0 cf_o0 g o_121, offS ad_208 tp_o8 hd_o8 tf_o8 cf_o8 g o_209]) [[(a_r_, .inl (g 0, n_r_, .inl r__93))], [(a_q_73, .inl (g 3, n_77, .inr (.inr (.inr (.inr (rowf m_98 rr_102))))))], [(a_q_78, .inl (g 0, n_81, .inl q138_97))], [(a_q_110, .inl (g 3, 8, .inr (.inr (.inr (.inr (rowf m_122 rr_126))))))], RWs m_122 rr_126 (g 0) ln_123 rc_124, offS ad_125 tp_o0 hd_o0 tf_o0 cf_o0 g o_121, offS ad_208 tp_o8 hd_o8 tf_o8 cf_o8 g o_209] [[((rr_102 v11_127.toNatClampNeg), .inl (g 0, (ln_99 v11_127.toNatClampNeg), .inl (rc_100 v11_127.toNatClampNeg)))], RWx m_98 v11_127.toNatClampNeg rr_102 (g 0) ln_99 rc_100] 9 [0, 1, 2, 3, 6, 7, 8, 4, 5] rfl rfl (by decide) hP hD
                    have hPs := P_perm (List.Perm.append_left _ (RW_join (m := m_98) (j := v11_127.toNatClampNeg) (r := rr_102) (ln := ln_99) (c0 := g 0) (c := rc_100) (f := (rc_100 v11_127.toNatClampNeg)) (vp_lt hj_206))) hPs
                    have hDs := D_perm (List.Perm.append_left _ (RW_join (m := m_98) (j := v11_127.toNatClampNeg) (r := rr_102) (ln := ln_99) (c0 := g 0) (c := rc_100) (f := (rc_100 v11_127.toNatClampNeg)) (vp_lt hj_206))) hDs
                    rw [va_up_id] at hPs hDs
                    obtain ⟨hP, hD⟩ := seg_join [[(a_r_, .inl (g 0, n_r_, .inl r__93))], [(a_q_73, .inl (g 3, n_77, .inr (.inr (.inr (.inr (rowf m_98 rr_102))))))], [(a_q_78, .inl (g 0, n_81, .inl q138_97))], [(a_q_110, .inl (g 3, 8, .inr (.inr (.inr (.inr (rowf m_122 rr_126))))))], RWs m_122 rr_126 (g 0) ln_123 rc_124, offS ad_125 tp_o0 hd_o0 tf_o0 cf_o0 g o_121, offS ad_208 tp_o8 hd_o8 tf_o8 cf_o8 g o_209] [RWs m_98 rr_102 (g 0) ln_99 rc_100] [[(a_r_, .inl (g 0, n_r_, .inl r__93))], [(a_q_73, .inl (g 3, n_77, .inr (.inr (.inr (.inr (rowf m_98 rr_102))))))], [(a_q_78, .inl (g 0, n_81, .inl q138_97))], [(a_q_110, .inl (g 3, 8, .inr (.inr (.inr (.inr (rowf m_122 rr_126))))))], RWs m_98 rr_102 (g 0) ln_99 rc_100, RWs m_122 rr_126 (g 0) ln_123 rc_124, offS ad_125 tp_o0 hd_o0 tf_o0 cf_o0 g o_121, offS ad_208 tp_o8 hd_o8 tf_o8 cf_o8 g o_209] 8 [0, 1, 2, 3, 7, 4, 5, 6] rfl rfl (by decide) hPs hDs
                    have hP : va_P (dC, dI) vwCl ([(a_r_, .inl (g 0, n_r_, .inl r__93)), (a_q_73, .inl (g 3, n_77, .inr (.inr (.inr (.inr (rowf m_98 rr_102)))))), (a_q_78, .inl (g 0, n_81, .inl q138_97)), (a_q_110, .inl (g 3, 8, .inr (.inr (.inr (.inr (rowf m_122 rr_126))))))] ++ (RWs m_98 rr_102 (g 0) ln_99 rc_100 ++ (RWs m_122 rr_126 (g 0) ln_123 rc_124 ++ (offS ad_125 tp_o0 hd_o0 tf_o0 cf_o0 g o_121 ++ (offS ad_208 tp_o8 hd_o8 tf_o8 cf_o8 g o_209))))) H_207 := hP
                    have hD : va_D A ([(a_r_, .inl (g 0, n_r_, .inl r__93)), (a_q_73, .inl (g 3, n_77, .inr (.inr (.inr (.inr (rowf m_98 rr_102)))))), (a_q_78, .inl (g 0, n_81, .inl q138_97)), (a_q_110, .inl (g 3, 8, .inr (.inr (.inr (.inr (rowf m_122 rr_126))))))] ++ (RWs m_98 rr_102 (g 0) ln_99 rc_100 ++ (RWs m_122 rr_126 (g 0) ln_123 rc_124 ++ (offS ad_125 tp_o0 hd_o0 tf_o0 cf_o0 g o_121 ++ (offS ad_208 tp_o8 hd_o8 tf_o8 cf_o8 g o_209))))) := hD
                    refine W.widen (k := (kb250 + 114)) (n := (nb250 + 683)) (by omega) (by omega) ?_
                    refine lv_if_ne (tgt := 322) hx hb dL_isProgram_315 (by decide) (fun c_210 => ?_) (fun c_210 => ?_)
                    · have hw := hw.2 (b2i_1 c_210)
                      obtain ⟨x_211, ex_211⟩ : ∃ y : Int32, y = v11_127 + 1 := ⟨_, rfl⟩
                      have hw := hw x_211 ex_211
                      refine lv_iinc (v := x_211) (lv' := [(11, .int x_211), (10, .int (b2i (v10_128 || sk0_204))), (1, .ref t_o0), (2, .ref t_o8), (4, .int r_58), (6, .ref a_q_73), (7, .ref a_q_78), (8, .ref a_q_110), (9, .int v9_130)]) hx hb dL_isProgram_322 hl (k := 8) rfl (by rw [ex_211]; rfl) (by decide) rfl (fun ls hl => ?_)
                      refine lv_goto (tgt := 250) hx hb dL_isProgram_325 (by decide) ?_
                      refine W.widen (k := (3345 - n250 * 114)) (n := (272795 - n250 * 683)) (by omega) (by omega) ?_
                      exact ih250 x_211 (v10_128 || sk0_204) o_209 v9_130 ad_208 had_208 _ _ hw hP hD hS _ (lv_sub hl [2, 3, 4, 5, 6, 7, 8, 1, 0] rfl)
                    · have hw := hw.1 (b2i_0 c_210)
                      refine lv_iload hx hb dL_isProgram_318 (lv_at hl 8 rfl) ?_
                      refine lv_istore (lv' := [(9, .int v11_127), (10, .int (b2i (v10_128 || sk0_204))), (1, .ref t_o0), (2, .ref t_o8), (4, .int r_58), (6, .ref a_q_73), (7, .ref a_q_78), (8, .ref a_q_110), (11, .int v11_127)]) hx hb dL_isProgram_320 hl (by decide) rfl (fun ls hl => ?_)
                      obtain ⟨x_212, ex_212⟩ : ∃ y : Int32, y = v11_127 + 1 := ⟨_, rfl⟩
                      have hw := hw x_212 ex_212
                      refine lv_iinc (v := x_212) (lv' := [(11, .int x_212), (9, .int v11_127), (10, .int (b2i (v10_128 || sk0_204))), (1, .ref t_o0), (2, .ref t_o8), (4, .int r_58), (6, .ref a_q_73), (7, .ref a_q_78), (8, .ref a_q_110)]) hx hb dL_isProgram_322 hl (k := 8) rfl (by rw [ex_212]; rfl) (by decide) rfl (fun ls hl => ?_)
                      refine lv_goto (tgt := 250) hx hb dL_isProgram_325 (by decide) ?_
                      refine W.widen (k := (3345 - n250 * 114)) (n := (272795 - n250 * 683)) (by omega) (by omega) ?_
                      exact ih250 x_212 (v10_128 || sk0_204) o_209 v11_127 ad_208 had_208 _ _ hw hP hD hS _ (lv_sub hl [3, 4, 5, 6, 7, 8, 1, 2, 0] rfl)
                  have JN302 : ∀  (H : Heap) (locs : List Loc), (wj_L_isProgram_302 n_77 m_98 ln_99 rc_100 v11_127 v10_128 o_129 v9_130 (wl_L_isProgram_250 r_58 n_77 m_98 ln_99 rc_100 (wx_L_isProgram_250_328 Q r_58 n_81 r__93 q138_97 o_121 m_122 ln_123 rc_124) n250))  → va_P (dC, dI) vwCl ([(a_r_, .inl (g 0, n_r_, .inl r__93)), (a_q_73, .inl (g 3, n_77, .inr (.inr (.inr (.inr (rowf m_98 rr_102)))))), (a_q_78, .inl (g 0, n_81, .inl q138_97)), (a_q_110, .inl (g 3, 8, .inr (.inr (.inr (.inr (rowf m_122 rr_126))))))] ++ (RWs m_98 rr_102 (g 0) ln_99 rc_100 ++ (RWs m_122 rr_126 (g 0) ln_123 rc_124 ++ (offS ad_125 tp_o0 hd_o0 tf_o0 cf_o0 g o_121 ++ (offS ad_131 tp_o8 hd_o8 tf_o8 cf_o8 g o_129))))) H → va_D A ([(a_r_, .inl (g 0, n_r_, .inl r__93)), (a_q_73, .inl (g 3, n_77, .inr (.inr (.inr (.inr (rowf m_98 rr_102)))))), (a_q_78, .inl (g 0, n_81, .inl q138_97)), (a_q_110, .inl (g 3, 8, .inr (.inr (.inr (.inr (rowf m_122 rr_126))))))] ++ (RWs m_98 rr_102 (g 0) ln_99 rc_100 ++ (RWs m_122 rr_126 (g 0) ln_123 rc_124 ++ (offS ad_125 tp_o0 hd_o0 tf_o0 cf_o0 g o_121 ++ (offS ad_131 tp_o8 hd_o8 tf_o8 cf_o8 g o_129))))) → va_S A s.heap H locs → ∀ (ls : Array Slot), lv_has ls 12 [(1, .ref t_o0), (2, .ref t_o8), (4, .int r_58), (6, .ref a_q_73), (7, .ref a_q_78), (8, .ref a_q_110), (9, .int v9_130), (11, .int v11_127)] → W p l e (headSpec wqL_isProgram ({ frames := 17, cells := 7020, slots := 298337, locals := 274 })).room s m ([.ref a_r_] : List Value).toArray below meth c H locs (kb250 + 0) (nb250 + 0) QM (F0 m 302 ls [.int (b2i v10_128)]) := by
                    intro  H locs hw hP hD hS ls hl
                    refine lv_iconst (v := 0) hx hb dL_isProgram_302 (by decide) ?_
                    refine W.widen (k := (kb250 + 0)) (n := (nb250 + 0)) (by omega) (by omega) ?_
                    exact JN303 false _ _ hw hP hD hS _ (lv_sub hl [0, 1, 2, 3, 4, 5, 6, 7] rfl)
                  refine lv_if_le (tgt := 302) hx hb dL_isProgram_272 (by decide) (fun c_213 => ?_) (fun c_213 => ?_)
                  · have hw := hw.1 c_213
                    refine W.widen (k := (kb250 + 0)) (n := (nb250 + 0)) (by omega) (by omega) ?_
                    exact JN302  _ _ hw hP hD hS _ (lv_sub hl [0, 1, 2, 3, 4, 5, 6, 8] rfl)
                  · have hw := hw.2 c_213
                    refine lv_aload hx hb dL_isProgram_275 (lv_at hl 3 rfl) ?_
                    refine lv_iload hx hb dL_isProgram_277 (lv_at hl 8 rfl) ?_
                    obtain ⟨hi_214, hj_215, hw⟩ := hw
                    refine va_aldA hx hb hK hP 1 rfl hi_214 dL_isProgram_279 ?_
                    refine W.eq (g2 := F0 m 280 ls (.ref (rr_102 v11_127.toNatClampNeg) :: [.int (b2i v10_128)])) (by rw [rowf_at (vp_lt hj_215)]; rfl) ?_
                    refine lv_iconst (v := 0) hx hb dL_isProgram_280 (by decide) ?_
                    obtain ⟨hi_216, hw⟩ := hw
                    obtain ⟨k_217, hk_217⟩ := List.mem_iff_getElem?.mp (show _ ∈ ([(a_r_, .inl (g 0, n_r_, .inl r__93)), (a_q_73, .inl (g 3, n_77, .inr (.inr (.inr (.inr (rowf m_98 rr_102)))))), (a_q_78, .inl (g 0, n_81, .inl q138_97)), (a_q_110, .inl (g 3, 8, .inr (.inr (.inr (.inr (rowf m_122 rr_126))))))] ++ (RWs m_98 rr_102 (g 0) ln_99 rc_100 ++ (RWs m_122 rr_126 (g 0) ln_123 rc_124 ++ (offS ad_125 tp_o0 hd_o0 tf_o0 cf_o0 g o_121 ++ (offS ad_131 tp_o8 hd_o8 tf_o8 cf_o8 g o_129))))) from (List.mem_append_right _ (List.mem_append_left _ (RW_mem (vp_lt hj_215)))))
                    refine va_iald hx hb hK hP k_217 0 hk_217 rfl hi_216 dL_isProgram_281 ?_
                    refine lv_topi (fun x_218 ex_218 => ?_)
                    have hw := hw x_218 ex_218
                    refine lv_iconst (v := 4) hx hb dL_isProgram_282 (by decide) ?_
                    refine lv_icmp_ge (tgt := 302) hx hb dL_isProgram_283 (by decide) (fun c_219 => ?_) (fun c_219 => ?_)
                    · have hw := hw.1 c_219
                      refine W.widen (k := (kb250 + 0)) (n := (nb250 + 0)) (by omega) (by omega) ?_
                      exact JN302  _ _ hw hP hD hS _ (lv_sub hl [0, 1, 2, 3, 4, 5, 6, 8] rfl)
                    · have hw := hw.2 c_219
                      refine lv_aload hx hb dL_isProgram_286 (lv_at hl 3 rfl) ?_
                      refine lv_iload hx hb dL_isProgram_288 (lv_at hl 8 rfl) ?_
                      obtain ⟨hi_220, hj_221, hw⟩ := hw
                      refine va_aldA hx hb hK hP 1 rfl hi_220 dL_isProgram_290 ?_
                      refine W.eq (g2 := F0 m 291 ls (.ref (rr_102 v11_127.toNatClampNeg) :: [.int (b2i v10_128)])) (by rw [rowf_at (vp_lt hj_221)]; rfl) ?_
                      refine lv_iconst (v := 3) hx hb dL_isProgram_291 (by decide) ?_
                      obtain ⟨hi_222, hw⟩ := hw
                      obtain ⟨k_223, hk_223⟩ := List.mem_iff_getElem?.mp (show _ ∈ ([(a_r_, .inl (g 0, n_r_, .inl r__93)), (a_q_73, .inl (g 3, n_77, .inr (.inr (.inr (.inr (rowf m_98 rr_102)))))), (a_q_78, .inl (g 0, n_81, .inl q138_97)), (a_q_110, .inl (g 3, 8, .inr (.inr (.inr (.inr (rowf m_122 rr_126))))))] ++ (RWs m_98 rr_102 (g 0) ln_99 rc_100 ++ (RWs m_122 rr_126 (g 0) ln_123 rc_124 ++ (offS ad_125 tp_o0 hd_o0 tf_o0 cf_o0 g o_121 ++ (offS ad_131 tp_o8 hd_o8 tf_o8 cf_o8 g o_129))))) from (List.mem_append_right _ (List.mem_append_left _ (RW_mem (vp_lt hj_221)))))
                      refine va_iald hx hb hK hP k_223 0 hk_223 rfl hi_222 dL_isProgram_292 ?_
                      refine lv_topi (fun x_224 ex_224 => ?_)
                      have hw := hw x_224 ex_224
                      refine lv_bipush (v := 7) hx hb dL_isProgram_293 (by decide) ?_
                      refine lv_icmp_eq (tgt := 302) hx hb dL_isProgram_295 (by decide) (fun c_225 => ?_) (fun c_225 => ?_)
                      · have hw := hw.1 c_225
                        refine W.widen (k := (kb250 + 0)) (n := (nb250 + 0)) (by omega) (by omega) ?_
                        exact JN302  _ _ hw hP hD hS _ (lv_sub hl [0, 1, 2, 3, 4, 5, 6, 8] rfl)
                      · have hw := hw.2 c_225
                        refine lv_iconst (v := 1) hx hb dL_isProgram_298 (by decide) ?_
                        refine lv_goto (tgt := 303) hx hb dL_isProgram_299 (by decide) ?_
                        refine W.widen (k := (kb250 + 0)) (n := (nb250 + 0)) (by omega) (by omega) ?_
                        exact JN303 true _ _ hw hP hD hS _ (lv_sub hl [0, 1, 2, 3, 4, 5, 6, 8] rfl)
          obtain ⟨n250, hle250, hw⟩ := hw
          refine W.widen (k := (3345 - n250 * 114)) (n := (272795 - n250 * 683)) (by omega) (by omega) ?_
          exact LOOP250 n250 hle250 0 false o_56 (-1) ad_55 had_55 _ _ hw hP hD hS _ (lv_sub hl [3, 4, 5, 6, 7, 8, 2, 1, 0] rfl)
        have LOOP217 : ∀ (n217 : Nat), n217 ≤ 9 → ∀ (v9_114 : Int32) (o_115 : OS) (m_116 : Nat) (ln_117 : Nat → Nat) (rc_118 : Nat → Nat → Int32) (ad_119 : Nat → Nat) (rr_120 : Nat → Nat) (had_119 : ad_119 0 = t_o0) (H : Heap) (locs : List Loc), wl_L_isProgram_217 (wx_L_isProgram_217_241 Q o_56 r_58 n_77 n_81 r__93 q138_97 m_98 ln_99 rc_100) n217 v9_114 o_115 m_116 ln_117 rc_118 → va_P (dC, dI) vwCl ([(a_r_, .inl (g 0, n_r_, .inl r__93)), (a_q_73, .inl (g 3, n_77, .inr (.inr (.inr (.inr (rowf m_98 rr_102)))))), (a_q_78, .inl (g 0, n_81, .inl q138_97)), (a_q_110, .inl (g 3, 8, .inr (.inr (.inr (.inr (rowf m_116 rr_120))))))] ++ (RWs m_98 rr_102 (g 0) ln_99 rc_100 ++ (RWs m_116 rr_120 (g 0) ln_117 rc_118 ++ (offS ad_119 tp_o0 hd_o0 tf_o0 cf_o0 g o_115 ++ (offS ad_55 tp_o8 hd_o8 tf_o8 cf_o8 g o_56))))) H → va_D A ([(a_r_, .inl (g 0, n_r_, .inl r__93)), (a_q_73, .inl (g 3, n_77, .inr (.inr (.inr (.inr (rowf m_98 rr_102)))))), (a_q_78, .inl (g 0, n_81, .inl q138_97)), (a_q_110, .inl (g 3, 8, .inr (.inr (.inr (.inr (rowf m_116 rr_120))))))] ++ (RWs m_98 rr_102 (g 0) ln_99 rc_100 ++ (RWs m_116 rr_120 (g 0) ln_117 rc_118 ++ (offS ad_119 tp_o0 hd_o0 tf_o0 cf_o0 g o_115 ++ (offS ad_55 tp_o8 hd_o8 tf_o8 cf_o8 g o_56))))) → va_S A s.heap H locs → ∀ (ls : Array Slot), lv_has ls 12 [(1, .ref t_o0), (2, .ref t_o8), (4, .int r_58), (6, .ref a_q_73), (7, .ref a_q_78), (8, .ref a_q_110), (9, .int v9_114)] → W p l e (headSpec wqL_isProgram ({ frames := 17, cells := 7020, slots := 298337, locals := 274 })).room s m ([.ref a_r_] : List Value).toArray below meth c H locs (2547 - n217 * 204) (268014 - n217 * 1418) QM (F0 m 217 ls []) := by
          intro n217
          induction n217 with
          | zero =>
            intro hle_n217
            intro v9_114 o_115 m_116 ln_117 rc_118 ad_119 rr_120 had_119 H locs hw hP hD hS ls hl
            exact False.elim hw
          | succ n217 ih217 =>
            intro hle_n217
            have ih217 := ih217 (by omega)
            intro v9_114 o_115 m_116 ln_117 rc_118 ad_119 rr_120 had_119 H locs hw hP hD hS ls hl
            rw [wl_L_isProgram_217_s] at hw
            obtain ⟨kb217, hkb217⟩ : ∃ x : Nat, x = 2547 - (n217 + 1) * 204 := ⟨_, rfl⟩
            obtain ⟨nb217, hnb217⟩ : ∃ x : Nat, x = 268014 - (n217 + 1) * 1418 := ⟨_, rfl⟩
            refine W.widen (k := kb217) (n := nb217) (by omega) (by omega) ?_
            refine lv_iload hx hb dL_isProgram_217 (lv_at hl 6 rfl) ?_
            refine lv_bipush (v := 8) hx hb dL_isProgram_219 (by decide) ?_
            refine lv_icmp_ge (tgt := 241) hx hb dL_isProgram_221 (by decide) (fun c_226 => ?_) (fun c_226 => ?_)
            · have hw := hw.1 c_226
              refine W.widen (k := 2547) (n := 268014) (by omega) (by omega) ?_
              exact EX217_241 o_115 m_116 ln_117 rc_118 ad_119 rr_120 had_119 _ _ hw hP hD hS _ (lv_sub hl [0, 1, 2, 3, 4, 5] rfl)
            · have hw := hw.2 c_226
              refine lv_aload hx hb dL_isProgram_224 (lv_at hl 5 rfl) ?_
              refine lv_iload hx hb dL_isProgram_226 (lv_at hl 6 rfl) ?_
              refine lv_aload_n hx hb dL_isProgram_228 rfl (lv_at hl 0 rfl) ?_
              refine lv_iload hx hb dL_isProgram_229 (lv_at hl 6 rfl) ?_
              obtain ⟨hPs, hDs⟩ := seg_call (segs := [[(a_r_, .inl (g 0, n_r_, .inl r__93))], [(a_q_73, .inl (g 3, n_77, .inr (.inr (.inr (.inr (rowf m_98 rr_102))))))], [(a_q_78, .inl (g 0, n_81, .inl q138_97))], [(a_q_110, .inl (g 3, 8, .inr (.inr (.inr (.inr (rowf m_116 rr_120))))))], RWs m_98 rr_102 (g 0) ln_99 rc_100, RWs m_116 rr_120 (g 0) ln_117 rc_118, offS ad_119 tp_o0 hd_o0 tf_o0 cf_o0 g o_115, offS ad_55 tp_o8 hd_o8 tf_o8 cf_o8 g o_56]) [[(a_r_, .inl (g 0, n_r_, .inl r__93))], [(a_q_73, .inl (g 3, n_77, .inr (.inr (.inr (.inr (rowf m_98 rr_102))))))], [(a_q_78, .inl (g 0, n_81, .inl q138_97))], [(a_q_110, .inl (g 3, 8, .inr (.inr (.inr (.inr (rowf m_116 rr_120))))))], RWs m_98 rr_102 (g 0) ln_99 rc_100, RWs m_116 rr_120 (g 0) ln_117 rc_118, offS ad_55 tp_o8 hd_o8 tf_o8 cf_o8 g o_56] [offS ad_119 tp_o0 hd_o0 tf_o0 cf_o0 g o_115] 8 [0, 1, 2, 3, 4, 5, 7, 6] rfl rfl (by decide) hP hD
              have hPc : va_P (dC, dI) vwCl (offS ad_119 tp_o0 hd_o0 tf_o0 cf_o0 g o_115) H := P_r hPs
              have hDc : va_D A (offS ad_119 tp_o0 hd_o0 tf_o0 cf_o0 g o_115) := D_r hDs
              have hFc : ∀ q, va_A (offS ad_119 tp_o0 hd_o0 tf_o0 cf_o0 g o_115) H.size q → A q := A_all hDc hA hS.1
              refine va_callq (va_runS (As := [.ref t_o0, .int v9_114]) (rest := [.int v9_114, .ref a_q_110]) ⟨hx, hb, hml, hown, hts⟩ (c_L_tape l hlf dC dI g (tp_p_ := tp_o0) (hd_p_ := hd_o0) (tf_p_ := tf_o0) (cf_p_ := cf_o0) (htf_p_ := htf_o0) (hcf_p_ := hcf_o0) (a_p_ := ad_119) (t_p_ := t_o0) (h_p_ := had_119) (o_p_ := o_115) (tape := v9_114) (hw := hw) (sz := H.size)) (va_cwS 2 hts (gqS aw_3_158 aw_3_159 aw_1_0 aw_3_160) rfl rfl rfl (by decide +kernel) ⟨Nat.le_of_ble_eq_true rfl, Nat.le_of_ble_eq_true rfl⟩) ⟨PG_blind, PG_call hK hG hS hPc hDc hFc⟩ rfl rfl hl.1 rfl (lv_room (Nat.le_of_ble_eq_true rfl)) dL_isProgram_231 ⟨by rw [hrc]; omega, by rw [hrs]; omega⟩) hS (fun q _ h => hFc q h) hFc (fun r_227 u_227 t_227 H_227 L_227 ht_227 hvm_227 hw_227 hB_227 hz_227 hk_227 hS => ?_)
              obtain ⟨ad_228, o_229, a_q_230, n_231, q_232, u_227⟩ := u_227
              obtain ⟨rfl, ⟨hw, had_228⟩⟩ := hw_227
              rw [ht_227] at hB_227
              obtain ⟨hP1, hD1⟩ := hB_227
              obtain ⟨hP, hD⟩ := join_r hPs hDs hk_227 hFc hP1 hD1
              obtain ⟨hP, hD⟩ := seg_join [[(a_r_, .inl (g 0, n_r_, .inl r__93))], [(a_q_73, .inl (g 3, n_77, .inr (.inr (.inr (.inr (rowf m_98 rr_102))))))], [(a_q_78, .inl (g 0, n_81, .inl q138_97))], [(a_q_110, .inl (g 3, 8, .inr (.inr (.inr (.inr (rowf m_116 rr_120))))))], RWs m_98 rr_102 (g 0) ln_99 rc_100, RWs m_116 rr_120 (g 0) ln_117 rc_118, offS ad_55 tp_o8 hd_o8 tf_o8 cf_o8 g o_56] [[(a_q_230, .inl (g 0, n_231, .inl q_232))], offS ad_228 tp_o0 hd_o0 tf_o0 cf_o0 g o_229] [[(a_r_, .inl (g 0, n_r_, .inl r__93))], [(a_q_73, .inl (g 3, n_77, .inr (.inr (.inr (.inr (rowf m_98 rr_102))))))], [(a_q_78, .inl (g 0, n_81, .inl q138_97))], [(a_q_110, .inl (g 3, 8, .inr (.inr (.inr (.inr (rowf m_116 rr_120))))))], [(a_q_230, .inl (g 0, n_231, .inl q_232))], RWs m_98 rr_102 (g 0) ln_99 rc_100, RWs m_116 rr_120 (g 0) ln_117 rc_118, offS ad_228 tp_o0 hd_o0 tf_o0 cf_o0 g o_229, offS ad_55 tp_o8 hd_o8 tf_o8 cf_o8 g o_56] 9 [0, 1, 2, 3, 7, 4, 5, 8, 6] rfl rfl (by decide) hP hD
              have hP : va_P (dC, dI) vwCl ([(a_r_, .inl (g 0, n_r_, .inl r__93)), (a_q_73, .inl (g 3, n_77, .inr (.inr (.inr (.inr (rowf m_98 rr_102)))))), (a_q_78, .inl (g 0, n_81, .inl q138_97)), (a_q_110, .inl (g 3, 8, .inr (.inr (.inr (.inr (rowf m_116 rr_120)))))), (a_q_230, .inl (g 0, n_231, .inl q_232))] ++ (RWs m_98 rr_102 (g 0) ln_99 rc_100 ++ (RWs m_116 rr_120 (g 0) ln_117 rc_118 ++ (offS ad_228 tp_o0 hd_o0 tf_o0 cf_o0 g o_229 ++ (offS ad_55 tp_o8 hd_o8 tf_o8 cf_o8 g o_56))))) H_227 := hP
              have hD : va_D A ([(a_r_, .inl (g 0, n_r_, .inl r__93)), (a_q_73, .inl (g 3, n_77, .inr (.inr (.inr (.inr (rowf m_98 rr_102)))))), (a_q_78, .inl (g 0, n_81, .inl q138_97)), (a_q_110, .inl (g 3, 8, .inr (.inr (.inr (.inr (rowf m_116 rr_120)))))), (a_q_230, .inl (g 0, n_231, .inl q_232))] ++ (RWs m_98 rr_102 (g 0) ln_99 rc_100 ++ (RWs m_116 rr_120 (g 0) ln_117 rc_118 ++ (offS ad_228 tp_o0 hd_o0 tf_o0 cf_o0 g o_229 ++ (offS ad_55 tp_o8 hd_o8 tf_o8 cf_o8 g o_56))))) := hD
              refine W.widen (k := (kb217 + 204)) (n := (nb217 + 1418)) (by omega) (by omega) ?_
              obtain ⟨hi_235, hm_236, hw⟩ := hw
              refine va_astA hx hb hK (ao_3 hG) hP hD hS 3 4 rfl rfl hi_235 dL_isProgram_234 (fun H_233 L_234 hP hD hS => ?_)
              have hP : va_P (dC, dI) vwCl ([(a_r_, .inl (g 0, n_r_, .inl r__93)), (a_q_73, .inl (g 3, n_77, .inr (.inr (.inr (.inr (rowf m_98 rr_102)))))), (a_q_78, .inl (g 0, n_81, .inl q138_97)), (a_q_110, .inl (g 3, 8, .inr (.inr (.inr (.inr (va_up (rowf m_116 rr_120) v9_114.toNatClampNeg (some a_q_230))))))), (a_q_230, .inl (g 0, n_231, .inl q_232))] ++ (RWs m_98 rr_102 (g 0) ln_99 rc_100 ++ (RWs m_116 rr_120 (g 0) ln_117 rc_118 ++ (offS ad_228 tp_o0 hd_o0 tf_o0 cf_o0 g o_229 ++ (offS ad_55 tp_o8 hd_o8 tf_o8 cf_o8 g o_56))))) H_233 := hP
              have hD : va_D A ([(a_r_, .inl (g 0, n_r_, .inl r__93)), (a_q_73, .inl (g 3, n_77, .inr (.inr (.inr (.inr (rowf m_98 rr_102)))))), (a_q_78, .inl (g 0, n_81, .inl q138_97)), (a_q_110, .inl (g 3, 8, .inr (.inr (.inr (.inr (va_up (rowf m_116 rr_120) v9_114.toNatClampNeg (some a_q_230))))))), (a_q_230, .inl (g 0, n_231, .inl q_232))] ++ (RWs m_98 rr_102 (g 0) ln_99 rc_100 ++ (RWs m_116 rr_120 (g 0) ln_117 rc_118 ++ (offS ad_228 tp_o0 hd_o0 tf_o0 cf_o0 g o_229 ++ (offS ad_55 tp_o8 hd_o8 tf_o8 cf_o8 g o_56))))) := hD
              rw [hm_236, rowf_app] at hP hD
              obtain ⟨hPs, hDs⟩ := seg_call (segs := [[(a_r_, .inl (g 0, n_r_, .inl r__93))], [(a_q_73, .inl (g 3, n_77, .inr (.inr (.inr (.inr (rowf m_98 rr_102))))))], [(a_q_78, .inl (g 0, n_81, .inl q138_97))], [(a_q_110, .inl (g 3, 8, .inr (.inr (.inr (.inr (rowf (m_116 + 1) (va_up rr_120 m_116 a_q_230)))))))], [(a_q_230, .inl (g 0, n_231, .inl q_232))], RWs m_98 rr_102 (g 0) ln_99 rc_100, RWs m_116 rr_120 (g 0) ln_117 rc_118, offS ad_228 tp_o0 hd_o0 tf_o0 cf_o0 g o_229, offS ad_55 tp_o8 hd_o8 tf_o8 cf_o8 g o_56]) [[(a_r_, .inl (g 0, n_r_, .inl r__93))], [(a_q_73, .inl (g 3, n_77, .inr (.inr (.inr (.inr (rowf m_98 rr_102))))))], [(a_q_78, .inl (g 0, n_81, .inl q138_97))], [(a_q_110, .inl (g 3, 8, .inr (.inr (.inr (.inr (rowf (m_116 + 1) (va_up rr_120 m_116 a_q_230)))))))], RWs m_98 rr_102 (g 0) ln_99 rc_100, offS ad_228 tp_o0 hd_o0 tf_o0 cf_o0 g o_229, offS ad_55 tp_o8 hd_o8 tf_o8 cf_o8 g o_56] [[(a_q_230, .inl (g 0, n_231, .inl q_232))], RWs m_116 rr_120 (g 0) ln_117 rc_118] 9 [0, 1, 2, 3, 5, 7, 8, 4, 6] rfl rfl (by decide) hP hD
              have hPs := P_perm (List.Perm.append_left _ (RW_app (m := m_116) (a := a_q_230) (n := n_231) (r := rr_120) (ln := ln_117) (c0 := g 0) (c := rc_118) (f := q_232))) hPs
              have hDs := D_perm (List.Perm.append_left _ (RW_app (m := m_116) (a := a_q_230) (n := n_231) (r := rr_120) (ln := ln_117) (c0 := g 0) (c := rc_118) (f := q_232))) hDs
              obtain ⟨hP, hD⟩ := seg_join [[(a_r_, .inl (g 0, n_r_, .inl r__93))], [(a_q_73, .inl (g 3, n_77, .inr (.inr (.inr (.inr (rowf m_98 rr_102))))))], [(a_q_78, .inl (g 0, n_81, .inl q138_97))], [(a_q_110, .inl (g 3, 8, .inr (.inr (.inr (.inr (rowf (m_116 + 1) (va_up rr_120 m_116 a_q_230)))))))], RWs m_98 rr_102 (g 0) ln_99 rc_100, offS ad_228 tp_o0 hd_o0 tf_o0 cf_o0 g o_229, offS ad_55 tp_o8 hd_o8 tf_o8 cf_o8 g o_56] [RWs (m_116 + 1) (va_up rr_120 m_116 a_q_230) (g 0) (va_up ln_117 m_116 n_231) (va_up rc_118 m_116 q_232)] [[(a_r_, .inl (g 0, n_r_, .inl r__93))], [(a_q_73, .inl (g 3, n_77, .inr (.inr (.inr (.inr (rowf m_98 rr_102))))))], [(a_q_78, .inl (g 0, n_81, .inl q138_97))], [(a_q_110, .inl (g 3, 8, .inr (.inr (.inr (.inr (rowf (m_116 + 1) (va_up rr_120 m_116 a_q_230)))))))], RWs m_98 rr_102 (g 0) ln_99 rc_100, RWs (m_116 + 1) (va_up rr_120 m_116 a_q_230) (g 0) (va_up ln_117 m_116 n_231) (va_up rc_118 m_116 q_232), offS ad_228 tp_o0 hd_o0 tf_o0 cf_o0 g o_229, offS ad_55 tp_o8 hd_o8 tf_o8 cf_o8 g o_56] 8 [0, 1, 2, 3, 4, 7, 5, 6] rfl rfl (by decide) hPs hDs
              have hP : va_P (dC, dI) vwCl ([(a_r_, .inl (g 0, n_r_, .inl r__93)), (a_q_73, .inl (g 3, n_77, .inr (.inr (.inr (.inr (rowf m_98 rr_102)))))), (a_q_78, .inl (g 0, n_81, .inl q138_97)), (a_q_110, .inl (g 3, 8, .inr (.inr (.inr (.inr (rowf (m_116 + 1) (va_up rr_120 m_116 a_q_230)))))))] ++ (RWs m_98 rr_102 (g 0) ln_99 rc_100 ++ (RWs (m_116 + 1) (va_up rr_120 m_116 a_q_230) (g 0) (va_up ln_117 m_116 n_231) (va_up rc_118 m_116 q_232) ++ (offS ad_228 tp_o0 hd_o0 tf_o0 cf_o0 g o_229 ++ (offS ad_55 tp_o8 hd_o8 tf_o8 cf_o8 g o_56))))) H_233 := hP
              have hD : va_D A ([(a_r_, .inl (g 0, n_r_, .inl r__93)), (a_q_73, .inl (g 3, n_77, .inr (.inr (.inr (.inr (rowf m_98 rr_102)))))), (a_q_78, .inl (g 0, n_81, .inl q138_97)), (a_q_110, .inl (g 3, 8, .inr (.inr (.inr (.inr (rowf (m_116 + 1) (va_up rr_120 m_116 a_q_230)))))))] ++ (RWs m_98 rr_102 (g 0) ln_99 rc_100 ++ (RWs (m_116 + 1) (va_up rr_120 m_116 a_q_230) (g 0) (va_up ln_117 m_116 n_231) (va_up rc_118 m_116 q_232) ++ (offS ad_228 tp_o0 hd_o0 tf_o0 cf_o0 g o_229 ++ (offS ad_55 tp_o8 hd_o8 tf_o8 cf_o8 g o_56))))) := hD
              obtain ⟨x_237, ex_237⟩ : ∃ y : Int32, y = v9_114 + 1 := ⟨_, rfl⟩
              have hw := hw x_237 ex_237
              refine lv_iinc (v := x_237) (lv' := [(9, .int x_237), (1, .ref t_o0), (2, .ref t_o8), (4, .int r_58), (6, .ref a_q_73), (7, .ref a_q_78), (8, .ref a_q_110)]) hx hb dL_isProgram_235 hl (k := 6) rfl (by rw [ex_237]; rfl) (by decide) rfl (fun ls hl => ?_)
              refine lv_goto (tgt := 217) hx hb dL_isProgram_238 (by decide) ?_
              refine W.widen (k := (2547 - n217 * 204)) (n := (268014 - n217 * 1418)) (by omega) (by omega) ?_
              exact ih217 x_237 o_229 (m_116 + 1) (va_up ln_117 m_116 n_231) (va_up rc_118 m_116 q_232) ad_228 (va_up rr_120 m_116 a_q_230) had_228 _ _ hw hP hD hS _ (lv_sub hl [1, 2, 3, 4, 5, 6, 0] rfl)
        obtain ⟨n217, hle217, hw⟩ := hw
        obtain ⟨hP, hD⟩ := seg_sub (segs := [[(a_r_, .inl (g 0, n_r_, .inl r__93))], [(a_q_60, .inr (1, [.ref v_101, .int 0, .int 0, .int k_96]))], [(v_101, .inl (g 2, c_94, .inl f_95))], [(a_q_73, .inl (g 3, n_77, .inr (.inr (.inr (.inr (rowf m_98 rr_102))))))], [(a_q_78, .inl (g 0, n_81, .inl q138_97))], [(a_q_110, .inl (g 3, 8, .inr (.inr (.inr (.inr (rowf 0 (fun _ => 0)))))))], RWs m_98 rr_102 (g 0) ln_99 rc_100, RWs 0 (fun _ => 0) (g 0) (fun _ => 0) (fun _ _ => 0), offS ad_108 tp_o0 hd_o0 tf_o0 cf_o0 g o_109, offS ad_55 tp_o8 hd_o8 tf_o8 cf_o8 g o_56]) [[(a_r_, .inl (g 0, n_r_, .inl r__93))], [(a_q_73, .inl (g 3, n_77, .inr (.inr (.inr (.inr (rowf m_98 rr_102))))))], [(a_q_78, .inl (g 0, n_81, .inl q138_97))], [(a_q_110, .inl (g 3, 8, .inr (.inr (.inr (.inr (rowf 0 (fun _ => 0)))))))], RWs m_98 rr_102 (g 0) ln_99 rc_100, RWs 0 (fun _ => 0) (g 0) (fun _ => 0) (fun _ _ => 0), offS ad_108 tp_o0 hd_o0 tf_o0 cf_o0 g o_109, offS ad_55 tp_o8 hd_o8 tf_o8 cf_o8 g o_56] [[(a_q_60, .inr (1, [.ref v_101, .int 0, .int 0, .int k_96]))], [(v_101, .inl (g 2, c_94, .inl f_95))]] 10 [0, 3, 4, 5, 6, 7, 8, 9, 1, 2] rfl rfl (by decide) hP hD
        refine W.widen (k := (2547 - n217 * 204)) (n := (268014 - n217 * 1418)) (by omega) (by omega) ?_
        exact LOOP217 n217 hle217 0 o_109 0 (fun _ => 0) (fun _ _ => 0) ad_108 (fun _ => 0) had_108 _ _ hw hP hD hS _ (lv_sub hl [2, 3, 4, 6, 7, 1, 0] rfl)
      · have hw := hw.2 c_105
        refine lv_iconst (v := 1) hx hb dL_isProgram_199 (by decide) ?_
        refine W.widen (k := 7020) (n := 298337) (by omega) (by omega) ?_
        subst hQM
        obtain ⟨hP, hD⟩ := seg_sub (segs := [[(a_r_, .inl (g 0, n_r_, .inl r__93))], [(a_q_60, .inr (1, [.ref v_101, .int 0, .int 0, .int k_96]))], [(v_101, .inl (g 2, c_94, .inl f_95))], [(a_q_73, .inl (g 3, n_77, .inr (.inr (.inr (.inr (rowf m_98 rr_102))))))], [(a_q_78, .inl (g 0, n_81, .inl q138_97))], RWs m_98 rr_102 (g 0) ln_99 rc_100, offS ad_52 tp_o0 hd_o0 tf_o0 cf_o0 g o_53, offS ad_55 tp_o8 hd_o8 tf_o8 cf_o8 g o_56]) [[(a_r_, .inl (g 0, n_r_, .inl r__93))]] [[(a_q_60, .inr (1, [.ref v_101, .int 0, .int 0, .int k_96]))], [(v_101, .inl (g 2, c_94, .inl f_95))], [(a_q_73, .inl (g 3, n_77, .inr (.inr (.inr (.inr (rowf m_98 rr_102))))))], [(a_q_78, .inl (g 0, n_81, .inl q138_97))], RWs m_98 rr_102 (g 0) ln_99 rc_100, offS ad_52 tp_o0 hd_o0 tf_o0 cf_o0 g o_53, offS ad_55 tp_o8 hd_o8 tf_o8 cf_o8 g o_56] 8 [0, 1, 2, 3, 4, 5, 6, 7] rfl rfl (by decide) hP hD
        exact W.zret (v := 1) hx hb hr rfl (fun t ht hW => ⟨⟨_, (r__93, ()), rfl, ⟨true, rfl, hw⟩, ⟨P_at ht hP, hD⟩⟩, hS.F ht⟩) hS.2.2 dL_isProgram_200
    have LOOP145 : ∀ (n145 : Nat), n145 ≤ 6 → ∀ (v8_82 : Int32) (r__83 : Nat → Int32) (c_84 : Nat) (f_85 : Nat → Int32) (k_86 : Int32) (q138_87 : Nat → Int32) (m_88 : Nat) (ln_89 : Nat → Nat) (rc_90 : Nat → Nat → Int32) (v_91 : Nat) (rr_92 : Nat → Nat) (H : Heap) (locs : List Loc), wl_L_isProgram_145 n_r_ r_58 n_77 n_81 (wx_L_isProgram_145_188 Q o_53 o_56 r_58 n_77 n_81) n145 v8_82 r__83 c_84 f_85 k_86 q138_87 m_88 ln_89 rc_90 → va_P (dC, dI) vwCl ([(a_r_, .inl (g 0, n_r_, .inl r__83)), (a_q_60, .inr (1, [.ref v_91, .int 0, .int 0, .int k_86])), (v_91, .inl (g 2, c_84, .inl f_85)), (a_q_73, .inl (g 3, n_77, .inr (.inr (.inr (.inr (rowf m_88 rr_92)))))), (a_q_78, .inl (g 0, n_81, .inl q138_87))] ++ (RWs m_88 rr_92 (g 0) ln_89 rc_90 ++ (offS ad_52 tp_o0 hd_o0 tf_o0 cf_o0 g o_53 ++ (offS ad_55 tp_o8 hd_o8 tf_o8 cf_o8 g o_56)))) H → va_D A ([(a_r_, .inl (g 0, n_r_, .inl r__83)), (a_q_60, .inr (1, [.ref v_91, .int 0, .int 0, .int k_86])), (v_91, .inl (g 2, c_84, .inl f_85)), (a_q_73, .inl (g 3, n_77, .inr (.inr (.inr (.inr (rowf m_88 rr_92)))))), (a_q_78, .inl (g 0, n_81, .inl q138_87))] ++ (RWs m_88 rr_92 (g 0) ln_89 rc_90 ++ (offS ad_52 tp_o0 hd_o0 tf_o0 cf_o0 g o_53 ++ (offS ad_55 tp_o8 hd_o8 tf_o8 cf_o8 g o_56)))) → va_S A s.heap H locs → ∀ (ls : Array Slot), lv_has ls 12 [(0, .ref a_r_), (1, .ref t_o0), (2, .ref t_o8), (4, .int r_58), (5, .ref a_q_60), (6, .ref a_q_73), (7, .ref a_q_78), (8, .int v8_82)] → W p l e (headSpec wqL_isProgram ({ frames := 17, cells := 7020, slots := 298337, locals := 274 })).room s m ([.ref a_r_] : List Value).toArray below meth c H locs (540 - n145 * 24) (254224 - n145 * 38025) QM (F0 m 145 ls []) := by
      intro n145
      induction n145 with
      | zero =>
        intro hle_n145
        intro v8_82 r__83 c_84 f_85 k_86 q138_87 m_88 ln_89 rc_90 v_91 rr_92 H locs hw hP hD hS ls hl
        exact False.elim hw
      | succ n145 ih145 =>
        intro hle_n145
        have ih145 := ih145 (by omega)
        intro v8_82 r__83 c_84 f_85 k_86 q138_87 m_88 ln_89 rc_90 v_91 rr_92 H locs hw hP hD hS ls hl
        rw [wl_L_isProgram_145_s] at hw
        obtain ⟨kb145, hkb145⟩ : ∃ x : Nat, x = 540 - (n145 + 1) * 24 := ⟨_, rfl⟩
        obtain ⟨nb145, hnb145⟩ : ∃ x : Nat, x = 254224 - (n145 + 1) * 38025 := ⟨_, rfl⟩
        refine W.widen (k := kb145) (n := nb145) (by omega) (by omega) ?_
        refine lv_iload hx hb dL_isProgram_145 (lv_at hl 7 rfl) ?_
        refine lv_iload hx hb dL_isProgram_147 (lv_at hl 3 rfl) ?_
        refine lv_icmp_ge (tgt := 188) hx hb dL_isProgram_149 (by decide) (fun c_238 => ?_) (fun c_238 => ?_)
        · have hw := hw.1 c_238
          refine W.widen (k := 540) (n := 254224) (by omega) (by omega) ?_
          exact EX145_188 r__83 c_84 f_85 k_86 q138_87 m_88 ln_89 rc_90 v_91 rr_92 _ _ hw hP hD hS _ (lv_sub hl [1, 2, 3, 4, 5, 6] rfl)
        · have hw := hw.2 c_238
          refine lv_aload hx hb dL_isProgram_152 (lv_at hl 5 rfl) ?_
          refine lv_iload hx hb dL_isProgram_154 (lv_at hl 7 rfl) ?_
          refine lv_aload_n hx hb dL_isProgram_156 rfl (lv_at hl 0 rfl) ?_
          obtain ⟨hPs, hDs⟩ := seg_call (segs := [[(a_r_, .inl (g 0, n_r_, .inl r__83))], [(a_q_60, .inr (1, [.ref v_91, .int 0, .int 0, .int k_86]))], [(v_91, .inl (g 2, c_84, .inl f_85))], [(a_q_73, .inl (g 3, n_77, .inr (.inr (.inr (.inr (rowf m_88 rr_92))))))], [(a_q_78, .inl (g 0, n_81, .inl q138_87))], RWs m_88 rr_92 (g 0) ln_89 rc_90, offS ad_52 tp_o0 hd_o0 tf_o0 cf_o0 g o_53, offS ad_55 tp_o8 hd_o8 tf_o8 cf_o8 g o_56]) [[(a_q_60, .inr (1, [.ref v_91, .int 0, .int 0, .int k_86]))], [(v_91, .inl (g 2, c_84, .inl f_85))], [(a_q_73, .inl (g 3, n_77, .inr (.inr (.inr (.inr (rowf m_88 rr_92))))))], [(a_q_78, .inl (g 0, n_81, .inl q138_87))], RWs m_88 rr_92 (g 0) ln_89 rc_90, offS ad_52 tp_o0 hd_o0 tf_o0 cf_o0 g o_53, offS ad_55 tp_o8 hd_o8 tf_o8 cf_o8 g o_56] [[(a_r_, .inl (g 0, n_r_, .inl r__83))]] 8 [1, 2, 3, 4, 5, 6, 7, 0] rfl rfl (by decide) hP hD
          have hPc : va_P (dC, dI) vwCl [(a_r_, .inl (g 0, n_r_, .inl r__83))] H := P_r hPs
          have hDc : va_D A [(a_r_, .inl (g 0, n_r_, .inl r__83))] := D_r hDs
          have hFc : ∀ q, va_A [(a_r_, .inl (g 0, n_r_, .inl r__83))] H.size q → A q := A_all hDc hA hS.1
          refine va_callq (va_runS (As := [.ref a_r_]) (rest := [.int v8_82, .ref a_q_73]) ⟨hx, hb, hml, hown, hts⟩ (c_L_statement l hlf dC dI g (a_r_ := a_r_) (n_r_ := n_r_) (r_ := r__83) (hw := hw) (sz := H.size)) (va_cwS 1 hts (gqS aw_7_6 aw_7_7 aw_1_0 aw_7_8) rfl rfl rfl (by decide +kernel) ⟨Nat.le_of_ble_eq_true rfl, Nat.le_of_ble_eq_true rfl⟩) ⟨PG_blind, PG_call hK hG hS hPc hDc hFc⟩ rfl rfl hl.1 rfl (lv_room (Nat.le_of_ble_eq_true rfl)) dL_isProgram_157 ⟨by rw [hrc]; omega, by rw [hrs]; omega⟩) hS (fun q _ h => hFc q h) hFc (fun r_239 u_239 t_239 H_239 L_239 ht_239 hvm_239 hw_239 hB_239 hz_239 hk_239 hS => ?_)
          obtain ⟨r__240, a_q_241, n_242, q_243, u_239⟩ := u_239
          obtain ⟨rfl, hw⟩ := hw_239
          rw [ht_239] at hB_239
          obtain ⟨hP1, hD1⟩ := hB_239
          obtain ⟨hP, hD⟩ := join_r hPs hDs hk_239 hFc hP1 hD1
          obtain ⟨hP, hD⟩ := seg_join [[(a_q_60, .inr (1, [.ref v_91, .int 0, .int 0, .int k_86]))], [(v_91, .inl (g 2, c_84, .inl f_85))], [(a_q_73, .inl (g 3, n_77, .inr (.inr (.inr (.inr (rowf m_88 rr_92))))))], [(a_q_78, .inl (g 0, n_81, .inl q138_87))], RWs m_88 rr_92 (g 0) ln_89 rc_90, offS ad_52 tp_o0 hd_o0 tf_o0 cf_o0 g o_53, offS ad_55 tp_o8 hd_o8 tf_o8 cf_o8 g o_56] [[(a_r_, .inl (g 0, n_r_, .inl r__240))], [(a_q_241, .inl (g 0, n_242, .inl q_243))]] [[(a_r_, .inl (g 0, n_r_, .inl r__240))], [(a_q_60, .inr (1, [.ref v_91, .int 0, .int 0, .int k_86]))], [(v_91, .inl (g 2, c_84, .inl f_85))], [(a_q_73, .inl (g 3, n_77, .inr (.inr (.inr (.inr (rowf m_88 rr_92))))))], [(a_q_78, .inl (g 0, n_81, .inl q138_87))], [(a_q_241, .inl (g 0, n_242, .inl q_243))], RWs m_88 rr_92 (g 0) ln_89 rc_90, offS ad_52 tp_o0 hd_o0 tf_o0 cf_o0 g o_53, offS ad_55 tp_o8 hd_o8 tf_o8 cf_o8 g o_56] 9 [7, 0, 1, 2, 3, 8, 4, 5, 6] rfl rfl (by decide) hP hD
          have hP : va_P (dC, dI) vwCl ([(a_r_, .inl (g 0, n_r_, .inl r__240)), (a_q_60, .inr (1, [.ref v_91, .int 0, .int 0, .int k_86])), (v_91, .inl (g 2, c_84, .inl f_85)), (a_q_73, .inl (g 3, n_77, .inr (.inr (.inr (.inr (rowf m_88 rr_92)))))), (a_q_78, .inl (g 0, n_81, .inl q138_87)), (a_q_241, .inl (g 0, n_242, .inl q_243))] ++ (RWs m_88 rr_92 (g 0) ln_89 rc_90 ++ (offS ad_52 tp_o0 hd_o0 tf_o0 cf_o0 g o_53 ++ (offS ad_55 tp_o8 hd_o8 tf_o8 cf_o8 g o_56)))) H_239 := hP
          have hD : va_D A ([(a_r_, .inl (g 0, n_r_, .inl r__240)), (a_q_60, .inr (1, [.ref v_91, .int 0, .int 0, .int k_86])), (v_91, .inl (g 2, c_84, .inl f_85)), (a_q_73, .inl (g 3, n_77, .inr (.inr (.inr (.inr (rowf m_88 rr_92)))))), (a_q_78, .inl (g 0, n_81, .inl q138_87)), (a_q_241, .inl (g 0, n_242, .inl q_243))] ++ (RWs m_88 rr_92 (g 0) ln_89 rc_90 ++ (offS ad_52 tp_o0 hd_o0 tf_o0 cf_o0 g o_53 ++ (offS ad_55 tp_o8 hd_o8 tf_o8 cf_o8 g o_56)))) := hD
          refine W.widen (k := (kb145 + 1)) (n := (nb145 + 9)) (by omega) (by omega) ?_
          obtain ⟨hi_246, hm_247, hw⟩ := hw
          refine va_astA hx hb hK (ao_3 hG) hP hD hS 3 5 rfl rfl hi_246 dL_isProgram_160 (fun H_244 L_245 hP hD hS => ?_)
          have hP : va_P (dC, dI) vwCl ([(a_r_, .inl (g 0, n_r_, .inl r__240)), (a_q_60, .inr (1, [.ref v_91, .int 0, .int 0, .int k_86])), (v_91, .inl (g 2, c_84, .inl f_85)), (a_q_73, .inl (g 3, n_77, .inr (.inr (.inr (.inr (va_up (rowf m_88 rr_92) v8_82.toNatClampNeg (some a_q_241))))))), (a_q_78, .inl (g 0, n_81, .inl q138_87)), (a_q_241, .inl (g 0, n_242, .inl q_243))] ++ (RWs m_88 rr_92 (g 0) ln_89 rc_90 ++ (offS ad_52 tp_o0 hd_o0 tf_o0 cf_o0 g o_53 ++ (offS ad_55 tp_o8 hd_o8 tf_o8 cf_o8 g o_56)))) H_244 := hP
          have hD : va_D A ([(a_r_, .inl (g 0, n_r_, .inl r__240)), (a_q_60, .inr (1, [.ref v_91, .int 0, .int 0, .int k_86])), (v_91, .inl (g 2, c_84, .inl f_85)), (a_q_73, .inl (g 3, n_77, .inr (.inr (.inr (.inr (va_up (rowf m_88 rr_92) v8_82.toNatClampNeg (some a_q_241))))))), (a_q_78, .inl (g 0, n_81, .inl q138_87)), (a_q_241, .inl (g 0, n_242, .inl q_243))] ++ (RWs m_88 rr_92 (g 0) ln_89 rc_90 ++ (offS ad_52 tp_o0 hd_o0 tf_o0 cf_o0 g o_53 ++ (offS ad_55 tp_o8 hd_o8 tf_o8 cf_o8 g o_56)))) := hD
          rw [hm_247, rowf_app] at hP hD
          obtain ⟨hPs, hDs⟩ := seg_call (segs := [[(a_r_, .inl (g 0, n_r_, .inl r__240))], [(a_q_60, .inr (1, [.ref v_91, .int 0, .int 0, .int k_86]))], [(v_91, .inl (g 2, c_84, .inl f_85))], [(a_q_73, .inl (g 3, n_77, .inr (.inr (.inr (.inr (rowf (m_88 + 1) (va_up rr_92 m_88 a_q_241)))))))], [(a_q_78, .inl (g 0, n_81, .inl q138_87))], [(a_q_241, .inl (g 0, n_242, .inl q_243))], RWs m_88 rr_92 (g 0) ln_89 rc_90, offS ad_52 tp_o0 hd_o0 tf_o0 cf_o0 g o_53, offS ad_55 tp_o8 hd_o8 tf_o8 cf_o8 g o_56]) [[(a_r_, .inl (g 0, n_r_, .inl r__240))], [(a_q_60, .inr (1, [.ref v_91, .int 0, .int 0, .int k_86]))], [(v_91, .inl (g 2, c_84, .inl f_85))], [(a_q_73, .inl (g 3, n_77, .inr (.inr (.inr (.inr (rowf (m_88 + 1) (va_up rr_92 m_88 a_q_241)))))))], [(a_q_78, .inl (g 0, n_81, .inl q138_87))], offS ad_52 tp_o0 hd_o0 tf_o0 cf_o0 g o_53, offS ad_55 tp_o8 hd_o8 tf_o8 cf_o8 g o_56] [[(a_q_241, .inl (g 0, n_242, .inl q_243))], RWs m_88 rr_92 (g 0) ln_89 rc_90] 9 [0, 1, 2, 3, 4, 7, 8, 5, 6] rfl rfl (by decide) hP hD
          have hPs := P_perm (List.Perm.append_left _ (RW_app (m := m_88) (a := a_q_241) (n := n_242) (r := rr_92) (ln := ln_89) (c0 := g 0) (c := rc_90) (f := q_243))) hPs
          have hDs := D_perm (List.Perm.append_left _ (RW_app (m := m_88) (a := a_q_241) (n := n_242) (r := rr_92) (ln := ln_89) (c0 := g 0) (c := rc_90) (f := q_243))) hDs
          obtain ⟨hP, hD⟩ := seg_join [[(a_r_, .inl (g 0, n_r_, .inl r__240))], [(a_q_60, .inr (1, [.ref v_91, .int 0, .int 0, .int k_86]))], [(v_91, .inl (g 2, c_84, .inl f_85))], [(a_q_73, .inl (g 3, n_77, .inr (.inr (.inr (.inr (rowf (m_88 + 1) (va_up rr_92 m_88 a_q_241)))))))], [(a_q_78, .inl (g 0, n_81, .inl q138_87))], offS ad_52 tp_o0 hd_o0 tf_o0 cf_o0 g o_53, offS ad_55 tp_o8 hd_o8 tf_o8 cf_o8 g o_56] [RWs (m_88 + 1) (va_up rr_92 m_88 a_q_241) (g 0) (va_up ln_89 m_88 n_242) (va_up rc_90 m_88 q_243)] [[(a_r_, .inl (g 0, n_r_, .inl r__240))], [(a_q_60, .inr (1, [.ref v_91, .int 0, .int 0, .int k_86]))], [(v_91, .inl (g 2, c_84, .inl f_85))], [(a_q_73, .inl (g 3, n_77, .inr (.inr (.inr (.inr (rowf (m_88 + 1) (va_up rr_92 m_88 a_q_241)))))))], [(a_q_78, .inl (g 0, n_81, .inl q138_87))], RWs (m_88 + 1) (va_up rr_92 m_88 a_q_241) (g 0) (va_up ln_89 m_88 n_242) (va_up rc_90 m_88 q_243), offS ad_52 tp_o0 hd_o0 tf_o0 cf_o0 g o_53, offS ad_55 tp_o8 hd_o8 tf_o8 cf_o8 g o_56] 8 [0, 1, 2, 3, 4, 7, 5, 6] rfl rfl (by decide) hPs hDs
          have hP : va_P (dC, dI) vwCl ([(a_r_, .inl (g 0, n_r_, .inl r__240)), (a_q_60, .inr (1, [.ref v_91, .int 0, .int 0, .int k_86])), (v_91, .inl (g 2, c_84, .inl f_85)), (a_q_73, .inl (g 3, n_77, .inr (.inr (.inr (.inr (rowf (m_88 + 1) (va_up rr_92 m_88 a_q_241))))))), (a_q_78, .inl (g 0, n_81, .inl q138_87))] ++ (RWs (m_88 + 1) (va_up rr_92 m_88 a_q_241) (g 0) (va_up ln_89 m_88 n_242) (va_up rc_90 m_88 q_243) ++ (offS ad_52 tp_o0 hd_o0 tf_o0 cf_o0 g o_53 ++ (offS ad_55 tp_o8 hd_o8 tf_o8 cf_o8 g o_56)))) H_244 := hP
          have hD : va_D A ([(a_r_, .inl (g 0, n_r_, .inl r__240)), (a_q_60, .inr (1, [.ref v_91, .int 0, .int 0, .int k_86])), (v_91, .inl (g 2, c_84, .inl f_85)), (a_q_73, .inl (g 3, n_77, .inr (.inr (.inr (.inr (rowf (m_88 + 1) (va_up rr_92 m_88 a_q_241))))))), (a_q_78, .inl (g 0, n_81, .inl q138_87))] ++ (RWs (m_88 + 1) (va_up rr_92 m_88 a_q_241) (g 0) (va_up ln_89 m_88 n_242) (va_up rc_90 m_88 q_243) ++ (offS ad_52 tp_o0 hd_o0 tf_o0 cf_o0 g o_53 ++ (offS ad_55 tp_o8 hd_o8 tf_o8 cf_o8 g o_56)))) := hD
          refine lv_aload hx hb dL_isProgram_161 (lv_at hl 6 rfl) ?_
          refine lv_iload hx hb dL_isProgram_163 (lv_at hl 7 rfl) ?_
          refine lv_aload hx hb dL_isProgram_165 (lv_at hl 4 rfl) ?_
          obtain ⟨hPs, hDs⟩ := seg_call (segs := [[(a_r_, .inl (g 0, n_r_, .inl r__240))], [(a_q_60, .inr (1, [.ref v_91, .int 0, .int 0, .int k_86]))], [(v_91, .inl (g 2, c_84, .inl f_85))], [(a_q_73, .inl (g 3, n_77, .inr (.inr (.inr (.inr (rowf (m_88 + 1) (va_up rr_92 m_88 a_q_241)))))))], [(a_q_78, .inl (g 0, n_81, .inl q138_87))], RWs (m_88 + 1) (va_up rr_92 m_88 a_q_241) (g 0) (va_up ln_89 m_88 n_242) (va_up rc_90 m_88 q_243), offS ad_52 tp_o0 hd_o0 tf_o0 cf_o0 g o_53, offS ad_55 tp_o8 hd_o8 tf_o8 cf_o8 g o_56]) [[(a_r_, .inl (g 0, n_r_, .inl r__240))], [(a_q_73, .inl (g 3, n_77, .inr (.inr (.inr (.inr (rowf (m_88 + 1) (va_up rr_92 m_88 a_q_241)))))))], [(a_q_78, .inl (g 0, n_81, .inl q138_87))], RWs (m_88 + 1) (va_up rr_92 m_88 a_q_241) (g 0) (va_up ln_89 m_88 n_242) (va_up rc_90 m_88 q_243), offS ad_52 tp_o0 hd_o0 tf_o0 cf_o0 g o_53, offS ad_55 tp_o8 hd_o8 tf_o8 cf_o8 g o_56] [[(a_q_60, .inr (1, [.ref v_91, .int 0, .int 0, .int k_86]))], [(v_91, .inl (g 2, c_84, .inl f_85))]] 8 [0, 3, 4, 5, 6, 7, 1, 2] rfl rfl (by decide) hP hD
          have hPc : va_P (dC, dI) vwCl [(a_q_60, .inr (1, [.ref v_91, .int 0, .int 0, .int k_86])), (v_91, .inl (g 2, c_84, .inl f_85))] H_244 := P_r hPs
          have hDc : va_D A [(a_q_60, .inr (1, [.ref v_91, .int 0, .int 0, .int k_86])), (v_91, .inl (g 2, c_84, .inl f_85))] := D_r hDs
          have hFc : ∀ q, va_A [(a_q_60, .inr (1, [.ref v_91, .int 0, .int 0, .int k_86])), (v_91, .inl (g 2, c_84, .inl f_85))] H_244.size q → A q := A_all hDc hA hS.1
          refine va_calli (va_runV (As := []) (rest := [.int v8_82, .ref a_q_78]) ⟨hx, hb, hml, hown, hts⟩ (c_J4_length_8abf5 l dC dI g (a_this_ := a_q_60) (v_this_ := v_91) (c_this_ := c_84) (f_this_ := f_85) (k_this_ := k_86) (hw := hw) (sz := H_244.size)) (cwV 0 hts (gqV aw_7_9 aw_7_10 aw_7_11 aw_1_26 aw_7_12) rfl rfl rfl (by decide +kernel) ⟨Nat.le_of_ble_eq_true rfl, Nat.le_of_ble_eq_true rfl⟩) ⟨PG_blind, va_recv hK hP (ci := 1) (q0 := 1) rfl rfl, PG_call hK hG hS hPc hDc hFc⟩ rfl rfl hl.1 rfl (lv_room (Nat.le_of_ble_eq_true rfl)) dL_isProgram_167 ⟨by rw [hrc]; omega, by rw [hrs]; omega⟩) hS (fun q _ h => hFc q h) hFc (fun r_249 u_249 t_249 H_249 L_249 ht_249 hvm_249 hw_249 hB_249 hz_249 hk_249 hS => ?_)
          have hw := hw_249
          rw [ht_249] at hB_249
          obtain ⟨hP1, hD1⟩ := hB_249
          obtain ⟨hP, hD⟩ := join_r hPs hDs hk_249 hFc hP1 hD1
          obtain ⟨hP, hD⟩ := seg_join [[(a_r_, .inl (g 0, n_r_, .inl r__240))], [(a_q_73, .inl (g 3, n_77, .inr (.inr (.inr (.inr (rowf (m_88 + 1) (va_up rr_92 m_88 a_q_241)))))))], [(a_q_78, .inl (g 0, n_81, .inl q138_87))], RWs (m_88 + 1) (va_up rr_92 m_88 a_q_241) (g 0) (va_up ln_89 m_88 n_242) (va_up rc_90 m_88 q_243), offS ad_52 tp_o0 hd_o0 tf_o0 cf_o0 g o_53, offS ad_55 tp_o8 hd_o8 tf_o8 cf_o8 g o_56] [[(a_q_60, .inr (1, [.ref v_91, .int 0, .int 0, .int k_86]))], [(v_91, .inl (g 2, c_84, .inl f_85))]] [[(a_r_, .inl (g 0, n_r_, .inl r__240))], [(a_q_60, .inr (1, [.ref v_91, .int 0, .int 0, .int k_86]))], [(v_91, .inl (g 2, c_84, .inl f_85))], [(a_q_73, .inl (g 3, n_77, .inr (.inr (.inr (.inr (rowf (m_88 + 1) (va_up rr_92 m_88 a_q_241)))))))], [(a_q_78, .inl (g 0, n_81, .inl q138_87))], RWs (m_88 + 1) (va_up rr_92 m_88 a_q_241) (g 0) (va_up ln_89 m_88 n_242) (va_up rc_90 m_88 q_243), offS ad_52 tp_o0 hd_o0 tf_o0 cf_o0 g o_53, offS ad_55 tp_o8 hd_o8 tf_o8 cf_o8 g o_56] 8 [0, 6, 7, 1, 2, 3, 4, 5] rfl rfl (by decide) hP hD
          have hP : va_P (dC, dI) vwCl ([(a_r_, .inl (g 0, n_r_, .inl r__240)), (a_q_60, .inr (1, [.ref v_91, .int 0, .int 0, .int k_86])), (v_91, .inl (g 2, c_84, .inl f_85)), (a_q_73, .inl (g 3, n_77, .inr (.inr (.inr (.inr (rowf (m_88 + 1) (va_up rr_92 m_88 a_q_241))))))), (a_q_78, .inl (g 0, n_81, .inl q138_87))] ++ (RWs (m_88 + 1) (va_up rr_92 m_88 a_q_241) (g 0) (va_up ln_89 m_88 n_242) (va_up rc_90 m_88 q_243) ++ (offS ad_52 tp_o0 hd_o0 tf_o0 cf_o0 g o_53 ++ (offS ad_55 tp_o8 hd_o8 tf_o8 cf_o8 g o_56)))) H_249 := hP
          have hD : va_D A ([(a_r_, .inl (g 0, n_r_, .inl r__240)), (a_q_60, .inr (1, [.ref v_91, .int 0, .int 0, .int k_86])), (v_91, .inl (g 2, c_84, .inl f_85)), (a_q_73, .inl (g 3, n_77, .inr (.inr (.inr (.inr (rowf (m_88 + 1) (va_up rr_92 m_88 a_q_241))))))), (a_q_78, .inl (g 0, n_81, .inl q138_87))] ++ (RWs (m_88 + 1) (va_up rr_92 m_88 a_q_241) (g 0) (va_up ln_89 m_88 n_242) (va_up rc_90 m_88 q_243) ++ (offS ad_52 tp_o0 hd_o0 tf_o0 cf_o0 g o_53 ++ (offS ad_55 tp_o8 hd_o8 tf_o8 cf_o8 g o_56)))) := hD
          refine W.widen (k := (kb145 + 1)) (n := (nb145 + 9)) (by omega) (by omega) ?_
          refine va_iast hx hb hK hP hD hS 4 0 rfl rfl hw.1 dL_isProgram_170 (fun H_250 L_251 hP hD hS => ?_)
          have hw := hw.2
          have hP : va_P (dC, dI) vwCl ([(a_r_, .inl (g 0, n_r_, .inl r__240)), (a_q_60, .inr (1, [.ref v_91, .int 0, .int 0, .int k_86])), (v_91, .inl (g 2, c_84, .inl f_85)), (a_q_73, .inl (g 3, n_77, .inr (.inr (.inr (.inr (rowf (m_88 + 1) (va_up rr_92 m_88 a_q_241))))))), (a_q_78, .inl (g 0, n_81, .inl (upd q138_87 v8_82.toNatClampNeg r_249)))] ++ (RWs (m_88 + 1) (va_up rr_92 m_88 a_q_241) (g 0) (va_up ln_89 m_88 n_242) (va_up rc_90 m_88 q_243) ++ (offS ad_52 tp_o0 hd_o0 tf_o0 cf_o0 g o_53 ++ (offS ad_55 tp_o8 hd_o8 tf_o8 cf_o8 g o_56)))) H_250 := hP
          have hD : va_D A ([(a_r_, .inl (g 0, n_r_, .inl r__240)), (a_q_60, .inr (1, [.ref v_91, .int 0, .int 0, .int k_86])), (v_91, .inl (g 2, c_84, .inl f_85)), (a_q_73, .inl (g 3, n_77, .inr (.inr (.inr (.inr (rowf (m_88 + 1) (va_up rr_92 m_88 a_q_241))))))), (a_q_78, .inl (g 0, n_81, .inl (upd q138_87 v8_82.toNatClampNeg r_249)))] ++ (RWs (m_88 + 1) (va_up rr_92 m_88 a_q_241) (g 0) (va_up ln_89 m_88 n_242) (va_up rc_90 m_88 q_243) ++ (offS ad_52 tp_o0 hd_o0 tf_o0 cf_o0 g o_53 ++ (offS ad_55 tp_o8 hd_o8 tf_o8 cf_o8 g o_56)))) := hD
          refine lv_aload_n hx hb dL_isProgram_171 rfl (lv_at hl 0 rfl) ?_
          refine lv_aload hx hb dL_isProgram_172 (lv_at hl 4 rfl) ?_
          refine lv_aload hx hb dL_isProgram_174 (lv_at hl 5 rfl) ?_
          refine lv_iload hx hb dL_isProgram_176 (lv_at hl 7 rfl) ?_
          obtain ⟨hi_252, hj_253, hw⟩ := hw
          refine va_aldA hx hb hK hP 3 rfl hi_252 dL_isProgram_178 ?_
          refine W.eq (g2 := F0 m 179 ls (.ref ((va_up rr_92 m_88 a_q_241) v8_82.toNatClampNeg) :: [.ref a_q_60, .ref a_r_])) (by rw [rowf_at (vp_lt hj_253)]; rfl) ?_
          obtain ⟨hPs, hDs⟩ := seg_call (segs := [[(a_r_, .inl (g 0, n_r_, .inl r__240))], [(a_q_60, .inr (1, [.ref v_91, .int 0, .int 0, .int k_86]))], [(v_91, .inl (g 2, c_84, .inl f_85))], [(a_q_73, .inl (g 3, n_77, .inr (.inr (.inr (.inr (rowf (m_88 + 1) (va_up rr_92 m_88 a_q_241)))))))], [(a_q_78, .inl (g 0, n_81, .inl (upd q138_87 v8_82.toNatClampNeg r_249)))], RWs (m_88 + 1) (va_up rr_92 m_88 a_q_241) (g 0) (va_up ln_89 m_88 n_242) (va_up rc_90 m_88 q_243), offS ad_52 tp_o0 hd_o0 tf_o0 cf_o0 g o_53, offS ad_55 tp_o8 hd_o8 tf_o8 cf_o8 g o_56]) [[(a_r_, .inl (g 0, n_r_, .inl r__240))], [(a_q_60, .inr (1, [.ref v_91, .int 0, .int 0, .int k_86]))], [(v_91, .inl (g 2, c_84, .inl f_85))], [(a_q_73, .inl (g 3, n_77, .inr (.inr (.inr (.inr (rowf (m_88 + 1) (va_up rr_92 m_88 a_q_241)))))))], [(a_q_78, .inl (g 0, n_81, .inl (upd q138_87 v8_82.toNatClampNeg r_249)))], offS ad_52 tp_o0 hd_o0 tf_o0 cf_o0 g o_53, offS ad_55 tp_o8 hd_o8 tf_o8 cf_o8 g o_56] [RWs (m_88 + 1) (va_up rr_92 m_88 a_q_241) (g 0) (va_up ln_89 m_88 n_242) (va_up rc_90 m_88 q_243)] 8 [0, 1, 2, 3, 4, 6, 7, 5] rfl rfl (by decide) hP hD
          have hPs := P_perm (List.Perm.append_left _ (RW_split (m := (m_88 + 1)) (j := v8_82.toNatClampNeg) (r := (va_up rr_92 m_88 a_q_241)) (ln := (va_up ln_89 m_88 n_242)) (c0 := g 0) (c := (va_up rc_90 m_88 q_243)) (vp_lt hj_253))) hPs
          have hDs := D_perm (List.Perm.append_left _ (RW_split (m := (m_88 + 1)) (j := v8_82.toNatClampNeg) (r := (va_up rr_92 m_88 a_q_241)) (ln := (va_up ln_89 m_88 n_242)) (c0 := g 0) (c := (va_up rc_90 m_88 q_243)) (vp_lt hj_253))) hDs
          obtain ⟨hP, hD⟩ := seg_join [[(a_r_, .inl (g 0, n_r_, .inl r__240))], [(a_q_60, .inr (1, [.ref v_91, .int 0, .int 0, .int k_86]))], [(v_91, .inl (g 2, c_84, .inl f_85))], [(a_q_73, .inl (g 3, n_77, .inr (.inr (.inr (.inr (rowf (m_88 + 1) (va_up rr_92 m_88 a_q_241)))))))], [(a_q_78, .inl (g 0, n_81, .inl (upd q138_87 v8_82.toNatClampNeg r_249)))], offS ad_52 tp_o0 hd_o0 tf_o0 cf_o0 g o_53, offS ad_55 tp_o8 hd_o8 tf_o8 cf_o8 g o_56] [[(((va_up rr_92 m_88 a_q_241) v8_82.toNatClampNeg), .inl (g 0, ((va_up ln_89 m_88 n_242) v8_82.toNatClampNeg), .inl ((va_up rc_90 m_88 q_243) v8_82.toNatClampNeg)))], RWx (m_88 + 1) v8_82.toNatClampNeg (va_up rr_92 m_88 a_q_241) (g 0) (va_up ln_89 m_88 n_242) (va_up rc_90 m_88 q_243)] [[(a_r_, .inl (g 0, n_r_, .inl r__240))], [(a_q_60, .inr (1, [.ref v_91, .int 0, .int 0, .int k_86]))], [(v_91, .inl (g 2, c_84, .inl f_85))], [(a_q_73, .inl (g 3, n_77, .inr (.inr (.inr (.inr (rowf (m_88 + 1) (va_up rr_92 m_88 a_q_241)))))))], [(a_q_78, .inl (g 0, n_81, .inl (upd q138_87 v8_82.toNatClampNeg r_249)))], [(((va_up rr_92 m_88 a_q_241) v8_82.toNatClampNeg), .inl (g 0, ((va_up ln_89 m_88 n_242) v8_82.toNatClampNeg), .inl ((va_up rc_90 m_88 q_243) v8_82.toNatClampNeg)))], RWx (m_88 + 1) v8_82.toNatClampNeg (va_up rr_92 m_88 a_q_241) (g 0) (va_up ln_89 m_88 n_242) (va_up rc_90 m_88 q_243), offS ad_52 tp_o0 hd_o0 tf_o0 cf_o0 g o_53, offS ad_55 tp_o8 hd_o8 tf_o8 cf_o8 g o_56] 9 [0, 1, 2, 3, 4, 7, 8, 5, 6] rfl rfl (by decide) hPs hDs
          have hP : va_P (dC, dI) vwCl ([(a_r_, .inl (g 0, n_r_, .inl r__240)), (a_q_60, .inr (1, [.ref v_91, .int 0, .int 0, .int k_86])), (v_91, .inl (g 2, c_84, .inl f_85)), (a_q_73, .inl (g 3, n_77, .inr (.inr (.inr (.inr (rowf (m_88 + 1) (va_up rr_92 m_88 a_q_241))))))), (a_q_78, .inl (g 0, n_81, .inl (upd q138_87 v8_82.toNatClampNeg r_249))), (((va_up rr_92 m_88 a_q_241) v8_82.toNatClampNeg), .inl (g 0, ((va_up ln_89 m_88 n_242) v8_82.toNatClampNeg), .inl ((va_up rc_90 m_88 q_243) v8_82.toNatClampNeg)))] ++ (RWx (m_88 + 1) v8_82.toNatClampNeg (va_up rr_92 m_88 a_q_241) (g 0) (va_up ln_89 m_88 n_242) (va_up rc_90 m_88 q_243) ++ (offS ad_52 tp_o0 hd_o0 tf_o0 cf_o0 g o_53 ++ (offS ad_55 tp_o8 hd_o8 tf_o8 cf_o8 g o_56)))) H_250 := hP
          have hD : va_D A ([(a_r_, .inl (g 0, n_r_, .inl r__240)), (a_q_60, .inr (1, [.ref v_91, .int 0, .int 0, .int k_86])), (v_91, .inl (g 2, c_84, .inl f_85)), (a_q_73, .inl (g 3, n_77, .inr (.inr (.inr (.inr (rowf (m_88 + 1) (va_up rr_92 m_88 a_q_241))))))), (a_q_78, .inl (g 0, n_81, .inl (upd q138_87 v8_82.toNatClampNeg r_249))), (((va_up rr_92 m_88 a_q_241) v8_82.toNatClampNeg), .inl (g 0, ((va_up ln_89 m_88 n_242) v8_82.toNatClampNeg), .inl ((va_up rc_90 m_88 q_243) v8_82.toNatClampNeg)))] ++ (RWx (m_88 + 1) v8_82.toNatClampNeg (va_up rr_92 m_88 a_q_241) (g 0) (va_up ln_89 m_88 n_242) (va_up rc_90 m_88 q_243) ++ (offS ad_52 tp_o0 hd_o0 tf_o0 cf_o0 g o_53 ++ (offS ad_55 tp_o8 hd_o8 tf_o8 cf_o8 g o_56)))) := hD
          obtain ⟨hPs, hDs⟩ := seg_call (segs := [[(a_r_, .inl (g 0, n_r_, .inl r__240))], [(a_q_60, .inr (1, [.ref v_91, .int 0, .int 0, .int k_86]))], [(v_91, .inl (g 2, c_84, .inl f_85))], [(a_q_73, .inl (g 3, n_77, .inr (.inr (.inr (.inr (rowf (m_88 + 1) (va_up rr_92 m_88 a_q_241)))))))], [(a_q_78, .inl (g 0, n_81, .inl (upd q138_87 v8_82.toNatClampNeg r_249)))], [(((va_up rr_92 m_88 a_q_241) v8_82.toNatClampNeg), .inl (g 0, ((va_up ln_89 m_88 n_242) v8_82.toNatClampNeg), .inl ((va_up rc_90 m_88 q_243) v8_82.toNatClampNeg)))], RWx (m_88 + 1) v8_82.toNatClampNeg (va_up rr_92 m_88 a_q_241) (g 0) (va_up ln_89 m_88 n_242) (va_up rc_90 m_88 q_243), offS ad_52 tp_o0 hd_o0 tf_o0 cf_o0 g o_53, offS ad_55 tp_o8 hd_o8 tf_o8 cf_o8 g o_56]) [[(a_q_73, .inl (g 3, n_77, .inr (.inr (.inr (.inr (rowf (m_88 + 1) (va_up rr_92 m_88 a_q_241)))))))], [(a_q_78, .inl (g 0, n_81, .inl (upd q138_87 v8_82.toNatClampNeg r_249)))], RWx (m_88 + 1) v8_82.toNatClampNeg (va_up rr_92 m_88 a_q_241) (g 0) (va_up ln_89 m_88 n_242) (va_up rc_90 m_88 q_243), offS ad_52 tp_o0 hd_o0 tf_o0 cf_o0 g o_53, offS ad_55 tp_o8 hd_o8 tf_o8 cf_o8 g o_56] [[(a_r_, .inl (g 0, n_r_, .inl r__240))], [(a_q_60, .inr (1, [.ref v_91, .int 0, .int 0, .int k_86]))], [(v_91, .inl (g 2, c_84, .inl f_85))], [(((va_up rr_92 m_88 a_q_241) v8_82.toNatClampNeg), .inl (g 0, ((va_up ln_89 m_88 n_242) v8_82.toNatClampNeg), .inl ((va_up rc_90 m_88 q_243) v8_82.toNatClampNeg)))]] 9 [3, 4, 6, 7, 8, 0, 1, 2, 5] rfl rfl (by decide) hP hD
          have hPc : va_P (dC, dI) vwCl [(a_r_, .inl (g 0, n_r_, .inl r__240)), (a_q_60, .inr (1, [.ref v_91, .int 0, .int 0, .int k_86])), (v_91, .inl (g 2, c_84, .inl f_85)), (((va_up rr_92 m_88 a_q_241) v8_82.toNatClampNeg), .inl (g 0, ((va_up ln_89 m_88 n_242) v8_82.toNatClampNeg), .inl ((va_up rc_90 m_88 q_243) v8_82.toNatClampNeg)))] H_250 := P_r hPs
          have hDc : va_D A [(a_r_, .inl (g 0, n_r_, .inl r__240)), (a_q_60, .inr (1, [.ref v_91, .int 0, .int 0, .int k_86])), (v_91, .inl (g 2, c_84, .inl f_85)), (((va_up rr_92 m_88 a_q_241) v8_82.toNatClampNeg), .inl (g 0, ((va_up ln_89 m_88 n_242) v8_82.toNatClampNeg), .inl ((va_up rc_90 m_88 q_243) v8_82.toNatClampNeg)))] := D_r hDs
          have hFc : ∀ q, va_A [(a_r_, .inl (g 0, n_r_, .inl r__240)), (a_q_60, .inr (1, [.ref v_91, .int 0, .int 0, .int k_86])), (v_91, .inl (g 2, c_84, .inl f_85)), (((va_up rr_92 m_88 a_q_241) v8_82.toNatClampNeg), .inl (g 0, ((va_up ln_89 m_88 n_242) v8_82.toNatClampNeg), .inl ((va_up rc_90 m_88 q_243) v8_82.toNatClampNeg)))] H_250.size q → A q := A_all hDc hA hS.1
          refine va_callv (va_runS (As := [.ref a_r_, .ref a_q_60, .ref ((va_up rr_92 m_88 a_q_241) v8_82.toNatClampNeg)]) (rest := []) ⟨hx, hb, hml, hown, hts⟩ (c_L_tells l hlf dC dI g (a_r_ := a_r_) (n_r_ := n_r_) (r_ := r__240) (a_text := a_q_60) (v_text := v_91) (c_text := c_84) (f_text := f_85) (k_text := k_86) (a_d_ := ((va_up rr_92 m_88 a_q_241) v8_82.toNatClampNeg)) (n_d_ := ((va_up ln_89 m_88 n_242) v8_82.toNatClampNeg)) (d_ := ((va_up rc_90 m_88 q_243) v8_82.toNatClampNeg)) (hw := hw) (sz := H_250.size)) (va_cwS 3 hts (gqS aw_7_16 aw_7_17 aw_1_0 aw_7_18) rfl rfl rfl (by decide +kernel) ⟨Nat.le_of_ble_eq_true rfl, Nat.le_of_ble_eq_true rfl⟩) ⟨PG_blind, PG_call hK hG hS hPc hDc hFc⟩ rfl rfl hl.1 rfl (lv_room (Nat.le_of_ble_eq_true rfl)) dL_isProgram_179 ⟨by rw [hrc]; omega, by rw [hrs]; omega⟩) hS (fun q _ h => hFc q h) hFc (fun u_255 t_255 H_255 L_255 ht_255 hvm_255 hw_255 hB_255 hz_255 hk_255 hS => ?_)
          obtain ⟨xr__256, v_257, c_258, f_259, k_260, u_255⟩ := u_255
          have hw := hw_255
          rw [ht_255] at hB_255
          obtain ⟨hP1, hD1⟩ := hB_255
          obtain ⟨hP, hD⟩ := join_r hPs hDs hk_255 hFc hP1 hD1
          obtain ⟨hP, hD⟩ := seg_join [[(a_q_73, .inl (g 3, n_77, .inr (.inr (.inr (.inr (rowf (m_88 + 1) (va_up rr_92 m_88 a_q_241)))))))], [(a_q_78, .inl (g 0, n_81, .inl (upd q138_87 v8_82.toNatClampNeg r_249)))], RWx (m_88 + 1) v8_82.toNatClampNeg (va_up rr_92 m_88 a_q_241) (g 0) (va_up ln_89 m_88 n_242) (va_up rc_90 m_88 q_243), offS ad_52 tp_o0 hd_o0 tf_o0 cf_o0 g o_53, offS ad_55 tp_o8 hd_o8 tf_o8 cf_o8 g o_56] [[(a_r_, .inl (g 0, n_r_, .inl xr__256))], [(a_q_60, .inr (1, [.ref v_257, .int 0, .int 0, .int k_260]))], [(v_257, .inl (g 2, c_258, .inl f_259))], [(((va_up rr_92 m_88 a_q_241) v8_82.toNatClampNeg), .inl (g 0, ((va_up ln_89 m_88 n_242) v8_82.toNatClampNeg), .inl ((va_up rc_90 m_88 q_243) v8_82.toNatClampNeg)))]] [[(a_r_, .inl (g 0, n_r_, .inl xr__256))], [(a_q_60, .inr (1, [.ref v_257, .int 0, .int 0, .int k_260]))], [(v_257, .inl (g 2, c_258, .inl f_259))], [(a_q_73, .inl (g 3, n_77, .inr (.inr (.inr (.inr (rowf (m_88 + 1) (va_up rr_92 m_88 a_q_241)))))))], [(a_q_78, .inl (g 0, n_81, .inl (upd q138_87 v8_82.toNatClampNeg r_249)))], [(((va_up rr_92 m_88 a_q_241) v8_82.toNatClampNeg), .inl (g 0, ((va_up ln_89 m_88 n_242) v8_82.toNatClampNeg), .inl ((va_up rc_90 m_88 q_243) v8_82.toNatClampNeg)))], RWx (m_88 + 1) v8_82.toNatClampNeg (va_up rr_92 m_88 a_q_241) (g 0) (va_up ln_89 m_88 n_242) (va_up rc_90 m_88 q_243), offS ad_52 tp_o0 hd_o0 tf_o0 cf_o0 g o_53, offS ad_55 tp_o8 hd_o8 tf_o8 cf_o8 g o_56] 9 [5, 6, 7, 0, 1, 8, 2, 3, 4] rfl rfl (by decide) hP hD
          have hP : va_P (dC, dI) vwCl ([(a_r_, .inl (g 0, n_r_, .inl xr__256)), (a_q_60, .inr (1, [.ref v_257, .int 0, .int 0, .int k_260])), (v_257, .inl (g 2, c_258, .inl f_259)), (a_q_73, .inl (g 3, n_77, .inr (.inr (.inr (.inr (rowf (m_88 + 1) (va_up rr_92 m_88 a_q_241))))))), (a_q_78, .inl (g 0, n_81, .inl (upd q138_87 v8_82.toNatClampNeg r_249))), (((va_up rr_92 m_88 a_q_241) v8_82.toNatClampNeg), .inl (g 0, ((va_up ln_89 m_88 n_242) v8_82.toNatClampNeg), .inl ((va_up rc_90 m_88 q_243) v8_82.toNatClampNeg)))] ++ (RWx (m_88 + 1) v8_82.toNatClampNeg (va_up rr_92 m_88 a_q_241) (g 0) (va_up ln_89 m_88 n_242) (va_up rc_90 m_88 q_243) ++ (offS ad_52 tp_o0 hd_o0 tf_o0 cf_o0 g o_53 ++ (offS ad_55 tp_o8 hd_o8 tf_o8 cf_o8 g o_56)))) H_255 := hP
          have hD : va_D A ([(a_r_, .inl (g 0, n_r_, .inl xr__256)), (a_q_60, .inr (1, [.ref v_257, .int 0, .int 0, .int k_260])), (v_257, .inl (g 2, c_258, .inl f_259)), (a_q_73, .inl (g 3, n_77, .inr (.inr (.inr (.inr (rowf (m_88 + 1) (va_up rr_92 m_88 a_q_241))))))), (a_q_78, .inl (g 0, n_81, .inl (upd q138_87 v8_82.toNatClampNeg r_249))), (((va_up rr_92 m_88 a_q_241) v8_82.toNatClampNeg), .inl (g 0, ((va_up ln_89 m_88 n_242) v8_82.toNatClampNeg), .inl ((va_up rc_90 m_88 q_243) v8_82.toNatClampNeg)))] ++ (RWx (m_88 + 1) v8_82.toNatClampNeg (va_up rr_92 m_88 a_q_241) (g 0) (va_up ln_89 m_88 n_242) (va_up rc_90 m_88 q_243) ++ (offS ad_52 tp_o0 hd_o0 tf_o0 cf_o0 g o_53 ++ (offS ad_55 tp_o8 hd_o8 tf_o8 cf_o8 g o_56)))) := hD
          obtain ⟨hPs, hDs⟩ := seg_call (segs := [[(a_r_, .inl (g 0, n_r_, .inl xr__256))], [(a_q_60, .inr (1, [.ref v_257, .int 0, .int 0, .int k_260]))], [(v_257, .inl (g 2, c_258, .inl f_259))], [(a_q_73, .inl (g 3, n_77, .inr (.inr (.inr (.inr (rowf (m_88 + 1) (va_up rr_92 m_88 a_q_241)))))))], [(a_q_78, .inl (g 0, n_81, .inl (upd q138_87 v8_82.toNatClampNeg r_249)))], [(((va_up rr_92 m_88 a_q_241) v8_82.toNatClampNeg), .inl (g 0, ((va_up ln_89 m_88 n_242) v8_82.toNatClampNeg), .inl ((va_up rc_90 m_88 q_243) v8_82.toNatClampNeg)))], RWx (m_88 + 1) v8_82.toNatClampNeg (va_up rr_92 m_88 a_q_241) (g 0) (va_up ln_89 m_88 n_242) (va_up rc_90 m_88 q_243), offS ad_52 tp_o0 hd_o0 tf_o0 cf_o0 g o_53, offS ad_55 tp_o8 hd_o8 tf_o8 cf_o8 g o_56]) [[(a_r_, .inl (g 0, n_r_, .inl xr__256))], [(a_q_60, .inr (1, [.ref v_257, .int 0, .int 0, .int k_260]))], [(v_257, .inl (g 2, c_258, .inl f_259))], [(a_q_73, .inl (g 3, n_77, .inr (.inr (.inr (.inr (rowf (m_88 + 1) (va_up rr_92 m_88 a_q_241)))))))], [(a_q_78, .inl (g 0, n_81, .inl (upd q138_87 v8_82.toNatClampNeg r_249)))], offS ad_52 tp_o0 hd_o0 tf_o0 cf_o0 g o_53, offS ad_55 tp_o8 hd_o8 tf_o8 cf_o8 g o_56] [[(((va_up rr_92 m_88 a_q_241) v8_82.toNatClampNeg), .inl (g 0, ((va_up ln_89 m_88 n_242) v8_82.toNatClampNeg), .inl ((va_up rc_90 m_88 q_243) v8_82.toNatClampNeg)))], RWx (m_88 + 1) v8_82.toNatClampNeg (va_up rr_92 m_88 a_q_241) (g 0) (va_up ln_89 m_88 n_242) (va_up rc_90 m_88 q_243)] 9 [0, 1, 2, 3, 4, 7, 8, 5, 6] rfl rfl (by decide) hP hD
          have hPs := P_perm (List.Perm.append_left _ (RW_join (m := (m_88 + 1)) (j := v8_82.toNatClampNeg) (r := (va_up rr_92 m_88 a_q_241)) (ln := (va_up ln_89 m_88 n_242)) (c0 := g 0) (c := (va_up rc_90 m_88 q_243)) (f := ((va_up rc_90 m_88 q_243) v8_82.toNatClampNeg)) (vp_lt hj_253))) hPs
          have hDs := D_perm (List.Perm.append_left _ (RW_join (m := (m_88 + 1)) (j := v8_82.toNatClampNeg) (r := (va_up rr_92 m_88 a_q_241)) (ln := (va_up ln_89 m_88 n_242)) (c0 := g 0) (c := (va_up rc_90 m_88 q_243)) (f := ((va_up rc_90 m_88 q_243) v8_82.toNatClampNeg)) (vp_lt hj_253))) hDs
          rw [va_up_id] at hPs hDs
          obtain ⟨hP, hD⟩ := seg_join [[(a_r_, .inl (g 0, n_r_, .inl xr__256))], [(a_q_60, .inr (1, [.ref v_257, .int 0, .int 0, .int k_260]))], [(v_257, .inl (g 2, c_258, .inl f_259))], [(a_q_73, .inl (g 3, n_77, .inr (.inr (.inr (.inr (rowf (m_88 + 1) (va_up rr_92 m_88 a_q_241)))))))], [(a_q_78, .inl (g 0, n_81, .inl (upd q138_87 v8_82.toNatClampNeg r_249)))], offS ad_52 tp_o0 hd_o0 tf_o0 cf_o0 g o_53, offS ad_55 tp_o8 hd_o8 tf_o8 cf_o8 g o_56] [RWs (m_88 + 1) (va_up rr_92 m_88 a_q_241) (g 0) (va_up ln_89 m_88 n_242) (va_up rc_90 m_88 q_243)] [[(a_r_, .inl (g 0, n_r_, .inl xr__256))], [(a_q_60, .inr (1, [.ref v_257, .int 0, .int 0, .int k_260]))], [(v_257, .inl (g 2, c_258, .inl f_259))], [(a_q_73, .inl (g 3, n_77, .inr (.inr (.inr (.inr (rowf (m_88 + 1) (va_up rr_92 m_88 a_q_241)))))))], [(a_q_78, .inl (g 0, n_81, .inl (upd q138_87 v8_82.toNatClampNeg r_249)))], RWs (m_88 + 1) (va_up rr_92 m_88 a_q_241) (g 0) (va_up ln_89 m_88 n_242) (va_up rc_90 m_88 q_243), offS ad_52 tp_o0 hd_o0 tf_o0 cf_o0 g o_53, offS ad_55 tp_o8 hd_o8 tf_o8 cf_o8 g o_56] 8 [0, 1, 2, 3, 4, 7, 5, 6] rfl rfl (by decide) hPs hDs
          have hP : va_P (dC, dI) vwCl ([(a_r_, .inl (g 0, n_r_, .inl xr__256)), (a_q_60, .inr (1, [.ref v_257, .int 0, .int 0, .int k_260])), (v_257, .inl (g 2, c_258, .inl f_259)), (a_q_73, .inl (g 3, n_77, .inr (.inr (.inr (.inr (rowf (m_88 + 1) (va_up rr_92 m_88 a_q_241))))))), (a_q_78, .inl (g 0, n_81, .inl (upd q138_87 v8_82.toNatClampNeg r_249)))] ++ (RWs (m_88 + 1) (va_up rr_92 m_88 a_q_241) (g 0) (va_up ln_89 m_88 n_242) (va_up rc_90 m_88 q_243) ++ (offS ad_52 tp_o0 hd_o0 tf_o0 cf_o0 g o_53 ++ (offS ad_55 tp_o8 hd_o8 tf_o8 cf_o8 g o_56)))) H_255 := hP
          have hD : va_D A ([(a_r_, .inl (g 0, n_r_, .inl xr__256)), (a_q_60, .inr (1, [.ref v_257, .int 0, .int 0, .int k_260])), (v_257, .inl (g 2, c_258, .inl f_259)), (a_q_73, .inl (g 3, n_77, .inr (.inr (.inr (.inr (rowf (m_88 + 1) (va_up rr_92 m_88 a_q_241))))))), (a_q_78, .inl (g 0, n_81, .inl (upd q138_87 v8_82.toNatClampNeg r_249)))] ++ (RWs (m_88 + 1) (va_up rr_92 m_88 a_q_241) (g 0) (va_up ln_89 m_88 n_242) (va_up rc_90 m_88 q_243) ++ (offS ad_52 tp_o0 hd_o0 tf_o0 cf_o0 g o_53 ++ (offS ad_55 tp_o8 hd_o8 tf_o8 cf_o8 g o_56)))) := hD
          refine W.widen (k := (kb145 + 24)) (n := (nb145 + 38025)) (by omega) (by omega) ?_
          obtain ⟨x_261, ex_261⟩ : ∃ y : Int32, y = v8_82 + 1 := ⟨_, rfl⟩
          have hw := hw x_261 ex_261
          refine lv_iinc (v := x_261) (lv' := [(8, .int x_261), (0, .ref a_r_), (1, .ref t_o0), (2, .ref t_o8), (4, .int r_58), (5, .ref a_q_60), (6, .ref a_q_73), (7, .ref a_q_78)]) hx hb dL_isProgram_182 hl (k := 7) rfl (by rw [ex_261]; rfl) (by decide) rfl (fun ls hl => ?_)
          refine lv_goto (tgt := 145) hx hb dL_isProgram_185 (by decide) ?_
          refine W.widen (k := (540 - n145 * 24)) (n := (254224 - n145 * 38025)) (by omega) (by omega) ?_
          exact ih145 x_261 xr__256 c_258 f_259 k_260 (upd q138_87 v8_82.toNatClampNeg r_249) (m_88 + 1) (va_up ln_89 m_88 n_242) (va_up rc_90 m_88 q_243) v_257 (va_up rr_92 m_88 a_q_241) _ _ hw hP hD hS _ (lv_sub hl [1, 2, 3, 4, 5, 6, 7, 0] rfl)
    obtain ⟨n145, hle145, hw⟩ := hw
    refine W.widen (k := (540 - n145 * 24)) (n := (254224 - n145 * 38025)) (by omega) (by omega) ?_
    exact LOOP145 n145 hle145 0 r__63 c_70 f_71 k_72 (fun _ => 0) 0 (fun _ => 0) (fun _ _ => 0) v_69 (fun _ => 0) _ _ hw hP hD hS _ (lv_sub hl [4, 5, 6, 7, 3, 2, 1, 0] rfl)
  refine lv_if_ne (tgt := 122) hx hb dL_isProgram_114 (by decide) (fun c_262 => ?_) (fun c_262 => ?_)
  · have hw := hw.2 c_262
    obtain ⟨as_19, hR_19, hT_19⟩ := GSb_of (sx_19 hG)
    refine va_ldcS hx hb hown hR_19 dL_isProgram_122 ?_
    refine W.widen (k := 392) (n := 22062) (by omega) (by omega) ?_
    exact JN124 (tn 19) (tb 19) as_19 hT_19 _ _ hw hP hD hS _ (lv_sub hl [4, 3, 2, 0] rfl)
  · have hw := hw.1 c_262
    obtain ⟨as_18, hR_18, hT_18⟩ := GSb_of (sx_18 hG)
    refine va_ldcS hx hb hown hR_18 dL_isProgram_117 ?_
    refine lv_goto (tgt := 124) hx hb dL_isProgram_119 (by decide) ?_
    refine W.widen (k := 392) (n := 22062) (by omega) (by omega) ?_
    exact JN124 (tn 18) (tb 18) as_18 hT_18 _ _ hw hP hD hS _ (lv_sub hl [4, 3, 2, 0] rfl)
