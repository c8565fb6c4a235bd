theorem dL_isJob_0 : decode cL_isJob 0 = .ok (.aload_n 0, 1) := by decide +kernel
theorem dL_isJob_1 : decode cL_isJob 1 = .ok (.aload_n 0, 1) := by decide +kernel
theorem dL_isJob_2 : decode cL_isJob 2 = .ok (.iload_n 2, 1) := by decide +kernel
theorem dL_isJob_3 : decode cL_isJob 3 = .ok (.invokestatic 120, 3) := by decide +kernel
theorem dL_isJob_6 : decode cL_isJob 6 = .ok (.iload 4, 2) := by decide +kernel
theorem dL_isJob_8 : decode cL_isJob 8 = .ok (.invokestatic 132, 3) := by decide +kernel
theorem dL_isJob_11 : decode cL_isJob 11 = .ok (.astore 5, 2) := by decide +kernel
theorem dL_isJob_13 : decode cL_isJob 13 = .ok (.aload_n 0, 1) := by decide +kernel
theorem dL_isJob_14 : decode cL_isJob 14 = .ok (.iload_n 2, 1) := by decide +kernel
theorem dL_isJob_15 : decode cL_isJob 15 = .ok (.invokevirtual 114, 3) := by decide +kernel
theorem dL_isJob_18 : decode cL_isJob 18 = .ok (.istore 6, 2) := by decide +kernel
theorem dL_isJob_20 : decode cL_isJob 20 = .ok (.aload_n 0, 1) := by decide +kernel
theorem dL_isJob_21 : decode cL_isJob 21 = .ok (.iload_n 2, 1) := by decide +kernel
theorem dL_isJob_22 : decode cL_isJob 22 = .ok (.iconst 0, 1) := by decide +kernel
theorem dL_isJob_23 : decode cL_isJob 23 = .ok (.invokevirtual 43, 3) := by decide +kernel
theorem dL_isJob_26 : decode cL_isJob 26 = .ok (.istore 7, 2) := by decide +kernel
theorem dL_isJob_28 : decode cL_isJob 28 = .ok (.aload_n 0, 1) := by decide +kernel
theorem dL_isJob_29 : decode cL_isJob 29 = .ok (.iload_n 2, 1) := by decide +kernel
theorem dL_isJob_30 : decode cL_isJob 30 = .ok (.iconst 1, 1) := by decide +kernel
theorem dL_isJob_31 : decode cL_isJob 31 = .ok (.invokevirtual 43, 3) := by decide +kernel
theorem dL_isJob_34 : decode cL_isJob 34 = .ok (.aload 5, 2) := by decide +kernel
theorem dL_isJob_36 : decode cL_isJob 36 = .ok (.arraylength, 1) := by decide +kernel
theorem dL_isJob_37 : decode cL_isJob 37 = .ok (.iadd, 1) := by decide +kernel
theorem dL_isJob_38 : decode cL_isJob 38 = .ok (.istore 8, 2) := by decide +kernel
theorem dL_isJob_40 : decode cL_isJob 40 = .ok (.aload_n 0, 1) := by decide +kernel
theorem dL_isJob_41 : decode cL_isJob 41 = .ok (.iload_n 2, 1) := by decide +kernel
theorem dL_isJob_42 : decode cL_isJob 42 = .ok (.iconst 2, 1) := by decide +kernel
theorem dL_isJob_43 : decode cL_isJob 43 = .ok (.invokevirtual 43, 3) := by decide +kernel
theorem dL_isJob_46 : decode cL_isJob 46 = .ok (.istore 9, 2) := by decide +kernel
theorem dL_isJob_48 : decode cL_isJob 48 = .ok (.aload_n 0, 1) := by decide +kernel
theorem dL_isJob_49 : decode cL_isJob 49 = .ok (.iload_n 2, 1) := by decide +kernel
theorem dL_isJob_50 : decode cL_isJob 50 = .ok (.iload_n 3, 1) := by decide +kernel
theorem dL_isJob_51 : decode cL_isJob 51 = .ok (.invokevirtual 46, 3) := by decide +kernel
theorem dL_isJob_54 : decode cL_isJob 54 = .ok (.iload 6, 2) := by decide +kernel
theorem dL_isJob_56 : decode cL_isJob 56 = .ok (.if_icmp .ne 67, 3) := by decide +kernel
theorem dL_isJob_123 : decode cL_isJob 123 = .ok (.iconst 0, 1) := by decide +kernel
theorem dL_isJob_124 : decode cL_isJob 124 = .ok (.ireturn, 1) := by decide +kernel
theorem dL_isJob_59 : decode cL_isJob 59 = .ok (.aload_n 0, 1) := by decide +kernel
theorem dL_isJob_60 : decode cL_isJob 60 = .ok (.iconst 0, 1) := by decide +kernel
theorem dL_isJob_61 : decode cL_isJob 61 = .ok (.invokevirtual 57, 3) := by decide +kernel
theorem dL_isJob_64 : decode cL_isJob 64 = .ok (.iload_n 3, 1) := by decide +kernel
theorem dL_isJob_65 : decode cL_isJob 65 = .ok (.if_icmp .ne 58, 3) := by decide +kernel
theorem dL_isJob_68 : decode cL_isJob 68 = .ok (.aload_n 0, 1) := by decide +kernel
theorem dL_isJob_69 : decode cL_isJob 69 = .ok (.iconst 5, 1) := by decide +kernel
theorem dL_isJob_70 : decode cL_isJob 70 = .ok (.invokevirtual 57, 3) := by decide +kernel
theorem dL_isJob_73 : decode cL_isJob 73 = .ok (.aload 5, 2) := by decide +kernel
theorem dL_isJob_75 : decode cL_isJob 75 = .ok (.arraylength, 1) := by decide +kernel
theorem dL_isJob_76 : decode cL_isJob 76 = .ok (.if_icmp .ne 47, 3) := by decide +kernel
theorem dL_isJob_79 : decode cL_isJob 79 = .ok (.aload_n 0, 1) := by decide +kernel
theorem dL_isJob_80 : decode cL_isJob 80 = .ok (.iconst 4, 1) := by decide +kernel
theorem dL_isJob_81 : decode cL_isJob 81 = .ok (.invokevirtual 57, 3) := by decide +kernel
theorem dL_isJob_84 : decode cL_isJob 84 = .ok (.ifCond .ne 39, 3) := by decide +kernel
theorem dL_isJob_87 : decode cL_isJob 87 = .ok (.aload_n 0, 1) := by decide +kernel
theorem dL_isJob_88 : decode cL_isJob 88 = .ok (.iconst 3, 1) := by decide +kernel
theorem dL_isJob_89 : decode cL_isJob 89 = .ok (.invokevirtual 57, 3) := by decide +kernel
theorem dL_isJob_92 : decode cL_isJob 92 = .ok (.ifCond .ne 31, 3) := by decide +kernel
theorem dL_isJob_95 : decode cL_isJob 95 = .ok (.aload_n 0, 1) := by decide +kernel
theorem dL_isJob_96 : decode cL_isJob 96 = .ok (.iconst 1, 1) := by decide +kernel
theorem dL_isJob_97 : decode cL_isJob 97 = .ok (.invokevirtual 57, 3) := by decide +kernel
theorem dL_isJob_100 : decode cL_isJob 100 = .ok (.iconst 1, 1) := by decide +kernel
theorem dL_isJob_109 : decode cL_isJob 109 = .ok (.iload 6, 2) := by decide +kernel
theorem dL_isJob_111 : decode cL_isJob 111 = .ok (.iconst 2, 1) := by decide +kernel
theorem dL_isJob_120 : decode cL_isJob 120 = .ok (.if_icmp .eq 5, 3) := by decide +kernel
theorem dL_isJob_125 : decode cL_isJob 125 = .ok (.iload_n 2, 1) := by decide +kernel
theorem dL_isJob_126 : decode cL_isJob 126 = .ok (.iload_n 3, 1) := by decide +kernel
theorem dL_isJob_139 : decode cL_isJob 139 = .ok (.istore 10, 2) := by decide +kernel
theorem dL_isJob_141 : decode cL_isJob 141 = .ok (.aload_n 0, 1) := by decide +kernel
theorem dL_isJob_142 : decode cL_isJob 142 = .ok (.iconst 1, 1) := by decide +kernel
theorem dL_isJob_143 : decode cL_isJob 143 = .ok (.iload 4, 2) := by decide +kernel
theorem dL_isJob_145 : decode cL_isJob 145 = .ok (.isub, 1) := by decide +kernel
theorem dL_isJob_146 : decode cL_isJob 146 = .ok (.aload_n 1, 1) := by decide +kernel
theorem dL_isJob_147 : decode cL_isJob 147 = .ok (.iconst 3, 1) := by decide +kernel
theorem dL_isJob_148 : decode cL_isJob 148 = .ok (.invokestatic 103, 3) := by decide +kernel
theorem dL_isJob_151 : decode cL_isJob 151 = .ok (.iconst 1, 1) := by decide +kernel
theorem dL_isJob_152 : decode cL_isJob 152 = .ok (.aload_n 1, 1) := by decide +kernel
theorem dL_isJob_153 : decode cL_isJob 153 = .ok (.bipush 50, 2) := by decide +kernel
theorem dL_isJob_155 : decode cL_isJob 155 = .ok (.invokestatic 103, 3) := by decide +kernel
theorem dL_isJob_158 : decode cL_isJob 158 = .ok (.iadd, 1) := by decide +kernel
theorem dL_isJob_159 : decode cL_isJob 159 = .ok (.invokevirtual 34, 3) := by decide +kernel
theorem dL_isJob_162 : decode cL_isJob 162 = .ok (.istore 10, 2) := by decide +kernel
theorem dL_isJob_164 : decode cL_isJob 164 = .ok (.aload_n 0, 1) := by decide +kernel
theorem dL_isJob_165 : decode cL_isJob 165 = .ok (.aload_n 1, 1) := by decide +kernel
theorem dL_isJob_166 : decode cL_isJob 166 = .ok (.iconst 3, 1) := by decide +kernel
theorem dL_isJob_167 : decode cL_isJob 167 = .ok (.invokestatic 103, 3) := by decide +kernel
theorem dL_isJob_170 : decode cL_isJob 170 = .ok (.iconst 2, 1) := by decide +kernel
theorem dL_isJob_171 : decode cL_isJob 171 = .ok (.aload_n 1, 1) := by decide +kernel
theorem dL_isJob_172 : decode cL_isJob 172 = .ok (.iconst 5, 1) := by decide +kernel
theorem dL_isJob_173 : decode cL_isJob 173 = .ok (.invokestatic 103, 3) := by decide +kernel
theorem dL_isJob_176 : decode cL_isJob 176 = .ok (.iadd, 1) := by decide +kernel
theorem dL_isJob_177 : decode cL_isJob 177 = .ok (.invokevirtual 37, 3) := by decide +kernel
theorem dL_isJob_180 : decode cL_isJob 180 = .ok (.istore 10, 2) := by decide +kernel
theorem dL_isJob_182 : decode cL_isJob 182 = .ok (.iconst 0, 1) := by decide +kernel
theorem dL_isJob_183 : decode cL_isJob 183 = .ok (.istore 11, 2) := by decide +kernel
theorem dL_isJob_185 : decode cL_isJob 185 = .ok (.iconst 0, 1) := by decide +kernel
theorem dL_isJob_186 : decode cL_isJob 186 = .ok (.istore 12, 2) := by decide +kernel
theorem dL_isJob_188 : decode cL_isJob 188 = .ok (.iconst 0, 1) := by decide +kernel
theorem dL_isJob_189 : decode cL_isJob 189 = .ok (.istore 13, 2) := by decide +kernel
theorem dL_isJob_191 : decode cL_isJob 191 = .ok (.iconst 0, 1) := by decide +kernel
theorem dL_isJob_192 : decode cL_isJob 192 = .ok (.istore 14, 2) := by decide +kernel
theorem dL_isJob_287 : decode cL_isJob 287 = .ok (.iconst 0, 1) := by decide +kernel
theorem dL_isJob_288 : decode cL_isJob 288 = .ok (.ireturn, 1) := by decide +kernel
theorem dL_isJob_367 : decode cL_isJob 367 = .ok (.iconst 0, 1) := by decide +kernel
theorem dL_isJob_368 : decode cL_isJob 368 = .ok (.ireturn, 1) := by decide +kernel
theorem dL_isJob_400 : decode cL_isJob 400 = .ok (.iconst 0, 1) := by decide +kernel
theorem dL_isJob_401 : decode cL_isJob 401 = .ok (.ireturn, 1) := by decide +kernel
theorem dL_isJob_408 : decode cL_isJob 408 = .ok (.aload_n 0, 1) := by decide +kernel
theorem dL_isJob_409 : decode cL_isJob 409 = .ok (.iconst 1, 1) := by decide +kernel
theorem dL_isJob_410 : decode cL_isJob 410 = .ok (.invokevirtual 57, 3) := by decide +kernel
theorem dL_isJob_413 : decode cL_isJob 413 = .ok (.iconst 1, 1) := by decide +kernel
theorem dL_isJob_414 : decode cL_isJob 414 = .ok (.if_icmp .ne 74, 3) := by decide +kernel
theorem dL_isJob_488 : decode cL_isJob 488 = .ok (.iconst 0, 1) := by decide +kernel
theorem dL_isJob_489 : decode cL_isJob 489 = .ok (.ireturn, 1) := by decide +kernel
theorem dL_isJob_417 : decode cL_isJob 417 = .ok (.aload_n 0, 1) := by decide +kernel
theorem dL_isJob_418 : decode cL_isJob 418 = .ok (.iconst 2, 1) := by decide +kernel
theorem dL_isJob_419 : decode cL_isJob 419 = .ok (.invokevirtual 57, 3) := by decide +kernel
theorem dL_isJob_422 : decode cL_isJob 422 = .ok (.aload 5, 2) := by decide +kernel
theorem dL_isJob_424 : decode cL_isJob 424 = .ok (.arraylength, 1) := by decide +kernel
theorem dL_isJob_433 : decode cL_isJob 433 = .ok (.if_icmp .ne 55, 3) := by decide +kernel
theorem dL_isJob_436 : decode cL_isJob 436 = .ok (.aload_n 0, 1) := by decide +kernel
theorem dL_isJob_437 : decode cL_isJob 437 = .ok (.iconst 3, 1) := by decide +kernel
theorem dL_isJob_438 : decode cL_isJob 438 = .ok (.invokevirtual 57, 3) := by decide +kernel
theorem dL_isJob_441 : decode cL_isJob 441 = .ok (.iload 7, 2) := by decide +kernel
theorem dL_isJob_443 : decode cL_isJob 443 = .ok (.if_icmp .ne 45, 3) := by decide +kernel
theorem dL_isJob_446 : decode cL_isJob 446 = .ok (.aload_n 0, 1) := by decide +kernel
theorem dL_isJob_447 : decode cL_isJob 447 = .ok (.iconst 4, 1) := by decide +kernel
theorem dL_isJob_448 : decode cL_isJob 448 = .ok (.invokevirtual 57, 3) := by decide +kernel
theorem dL_isJob_451 : decode cL_isJob 451 = .ok (.iload 12, 2) := by decide +kernel
theorem dL_isJob_453 : decode cL_isJob 453 = .ok (.if_icmp .ne 35, 3) := by decide +kernel
theorem dL_isJob_456 : decode cL_isJob 456 = .ok (.aload_n 0, 1) := by decide +kernel
theorem dL_isJob_457 : decode cL_isJob 457 = .ok (.iconst 5, 1) := by decide +kernel
theorem dL_isJob_458 : decode cL_isJob 458 = .ok (.invokevirtual 57, 3) := by decide +kernel
theorem dL_isJob_461 : decode cL_isJob 461 = .ok (.iload 8, 2) := by decide +kernel
theorem dL_isJob_463 : decode cL_isJob 463 = .ok (.iload 11, 2) := by decide +kernel
theorem dL_isJob_465 : decode cL_isJob 465 = .ok (.iadd, 1) := by decide +kernel
theorem dL_isJob_466 : decode cL_isJob 466 = .ok (.if_icmp .ne 22, 3) := by decide +kernel
theorem dL_isJob_469 : decode cL_isJob 469 = .ok (.iload 12, 2) := by decide +kernel
theorem dL_isJob_471 : decode cL_isJob 471 = .ok (.iload 9, 2) := by decide +kernel
theorem dL_isJob_473 : decode cL_isJob 473 = .ok (.if_icmp .lt 15, 3) := by decide +kernel
theorem dL_isJob_476 : decode cL_isJob 476 = .ok (.iload 13, 2) := by decide +kernel
theorem dL_isJob_490 : decode cL_isJob 490 = .ok (.aload_n 0, 1) := by decide +kernel
theorem dL_isJob_491 : decode cL_isJob 491 = .ok (.iload_n 3, 1) := by decide +kernel
theorem dL_isJob_492 : decode cL_isJob 492 = .ok (.invokestatic 120, 3) := by decide +kernel
theorem dL_isJob_495 : decode cL_isJob 495 = .ok (.aload 5, 2) := by decide +kernel
theorem dL_isJob_497 : decode cL_isJob 497 = .ok (.invokestatic 136, 3) := by decide +kernel
theorem dL_isJob_500 : decode cL_isJob 500 = .ok (.ifCond .eq 56, 3) := by decide +kernel
theorem dL_isJob_556 : decode cL_isJob 556 = .ok (.iconst 0, 1) := by decide +kernel
theorem dL_isJob_557 : decode cL_isJob 557 = .ok (.ireturn, 1) := by decide +kernel
theorem dL_isJob_503 : decode cL_isJob 503 = .ok (.aload_n 0, 1) := by decide +kernel
theorem dL_isJob_504 : decode cL_isJob 504 = .ok (.iload_n 3, 1) := by decide +kernel
theorem dL_isJob_505 : decode cL_isJob 505 = .ok (.iload 4, 2) := by decide +kernel
theorem dL_isJob_507 : decode cL_isJob 507 = .ok (.invokevirtual 144, 3) := by decide +kernel
theorem dL_isJob_510 : decode cL_isJob 510 = .ok (.ifCond .eq 46, 3) := by decide +kernel
theorem dL_isJob_513 : decode cL_isJob 513 = .ok (.aload_n 0, 1) := by decide +kernel
theorem dL_isJob_514 : decode cL_isJob 514 = .ok (.bipush 9, 2) := by decide +kernel
theorem dL_isJob_516 : decode cL_isJob 516 = .ok (.iconst 1, 1) := by decide +kernel
theorem dL_isJob_517 : decode cL_isJob 517 = .ok (.iconst 0, 1) := by decide +kernel
theorem dL_isJob_518 : decode cL_isJob 518 = .ok (.iconst 0, 1) := by decide +kernel
theorem dL_isJob_519 : decode cL_isJob 519 = .ok (.invokestatic 140, 3) := by decide +kernel
theorem dL_isJob_522 : decode cL_isJob 522 = .ok (.sipush (-20004), 3) := by decide +kernel
theorem dL_isJob_525 : decode cL_isJob 525 = .ok (.if_icmp .ne 31, 3) := by decide +kernel
theorem dL_isJob_528 : decode cL_isJob 528 = .ok (.aload_n 0, 1) := by decide +kernel
theorem dL_isJob_529 : decode cL_isJob 529 = .ok (.bipush 10, 2) := by decide +kernel
theorem dL_isJob_531 : decode cL_isJob 531 = .ok (.iconst 0, 1) := by decide +kernel
theorem dL_isJob_532 : decode cL_isJob 532 = .ok (.iconst 0, 1) := by decide +kernel
theorem dL_isJob_533 : decode cL_isJob 533 = .ok (.iconst 0, 1) := by decide +kernel
theorem dL_isJob_534 : decode cL_isJob 534 = .ok (.invokestatic 140, 3) := by decide +kernel
theorem dL_isJob_537 : decode cL_isJob 537 = .ok (.sipush (-20004), 3) := by decide +kernel
theorem dL_isJob_540 : decode cL_isJob 540 = .ok (.if_icmp .ne 16, 3) := by decide +kernel
theorem dL_isJob_543 : decode cL_isJob 543 = .ok (.aload_n 0, 1) := by decide +kernel
theorem dL_isJob_544 : decode cL_isJob 544 = .ok (.iconst 0, 1) := by decide +kernel
theorem dL_isJob_545 : decode cL_isJob 545 = .ok (.invokevirtual 57, 3) := by decide +kernel
theorem dL_isJob_548 : decode cL_isJob 548 = .ok (.iload_n 3, 1) := by decide +kernel
theorem dL_isJob_549 : decode cL_isJob 549 = .ok (.if_icmp .ne 7, 3) := by decide +kernel
theorem dL_isJob_552 : decode cL_isJob 552 = .ok (.iconst 1, 1) := by decide +kernel
theorem dL_isJob_553 : decode cL_isJob 553 = .ok (.goto 4, 3) := by decide +kernel
theorem dL_isJob_478 : decode cL_isJob 478 = .ok (.ifCond .ne 12, 3) := by decide +kernel
theorem dL_isJob_481 : decode cL_isJob 481 = .ok (.iload 12, 2) := by decide +kernel
theorem dL_isJob_483 : decode cL_isJob 483 = .ok (.iload 9, 2) := by decide +kernel
theorem dL_isJob_485 : decode cL_isJob 485 = .ok (.if_icmp .eq 5, 3) := by decide +kernel
theorem dL_isJob_425 : decode cL_isJob 425 = .ok (.ifCond .ne 7, 3) := by decide +kernel
theorem dL_isJob_432 : decode cL_isJob 432 = .ok (.iconst 1, 1) := by decide +kernel
theorem dL_isJob_428 : decode cL_isJob 428 = .ok (.iconst 0, 1) := by decide +kernel
theorem dL_isJob_429 : decode cL_isJob 429 = .ok (.goto 4, 3) := by decide +kernel
theorem dL_isJob_194 : decode cL_isJob 194 = .ok (.iload 14, 2) := by decide +kernel
theorem dL_isJob_196 : decode cL_isJob 196 = .ok (.sipush 400, 3) := by decide +kernel
theorem dL_isJob_199 : decode cL_isJob 199 = .ok (.if_icmp .ge 209, 3) := by decide +kernel
theorem dL_isJob_202 : decode cL_isJob 202 = .ok (.aload_n 0, 1) := by decide +kernel
theorem dL_isJob_203 : decode cL_isJob 203 = .ok (.iconst 1, 1) := by decide +kernel
theorem dL_isJob_204 : decode cL_isJob 204 = .ok (.invokevirtual 57, 3) := by decide +kernel
theorem dL_isJob_207 : decode cL_isJob 207 = .ok (.ifCond .ne 201, 3) := by decide +kernel
theorem dL_isJob_210 : decode cL_isJob 210 = .ok (.aload_n 0, 1) := by decide +kernel
theorem dL_isJob_211 : decode cL_isJob 211 = .ok (.iconst 3, 1) := by decide +kernel
theorem dL_isJob_212 : decode cL_isJob 212 = .ok (.invokevirtual 57, 3) := by decide +kernel
theorem dL_isJob_215 : decode cL_isJob 215 = .ok (.istore 15, 2) := by decide +kernel
theorem dL_isJob_217 : decode cL_isJob 217 = .ok (.aload_n 1, 1) := by decide +kernel
theorem dL_isJob_218 : decode cL_isJob 218 = .ok (.bipush 6, 2) := by decide +kernel
theorem dL_isJob_220 : decode cL_isJob 220 = .ok (.invokestatic 103, 3) := by decide +kernel
theorem dL_isJob_369 : decode cL_isJob 369 = .ok (.aload_n 0, 1) := by decide +kernel
theorem dL_isJob_370 : decode cL_isJob 370 = .ok (.iconst 2, 1) := by decide +kernel
theorem dL_isJob_371 : decode cL_isJob 371 = .ok (.invokevirtual 57, 3) := by decide +kernel
theorem dL_isJob_374 : decode cL_isJob 374 = .ok (.iconst 1, 1) := by decide +kernel
theorem dL_isJob_375 : decode cL_isJob 375 = .ok (.if_icmp .lt 25, 3) := by decide +kernel
theorem dL_isJob_378 : decode cL_isJob 378 = .ok (.aload_n 0, 1) := by decide +kernel
theorem dL_isJob_379 : decode cL_isJob 379 = .ok (.bipush 6, 2) := by decide +kernel
theorem dL_isJob_381 : decode cL_isJob 381 = .ok (.invokevirtual 57, 3) := by decide +kernel
theorem dL_isJob_384 : decode cL_isJob 384 = .ok (.iload 11, 2) := by decide +kernel
theorem dL_isJob_386 : decode cL_isJob 386 = .ok (.if_icmp .ne 14, 3) := by decide +kernel
theorem dL_isJob_389 : decode cL_isJob 389 = .ok (.aload_n 0, 1) := by decide +kernel
theorem dL_isJob_390 : decode cL_isJob 390 = .ok (.bipush 7, 2) := by decide +kernel
theorem dL_isJob_392 : decode cL_isJob 392 = .ok (.invokevirtual 57, 3) := by decide +kernel
theorem dL_isJob_395 : decode cL_isJob 395 = .ok (.iload 13, 2) := by decide +kernel
theorem dL_isJob_397 : decode cL_isJob 397 = .ok (.if_icmp .eq 5, 3) := by decide +kernel
theorem dL_isJob_402 : decode cL_isJob 402 = .ok (.iinc 14 1, 3) := by decide +kernel
theorem dL_isJob_405 : decode cL_isJob 405 = .ok (.goto (-211), 3) := by decide +kernel
theorem dL_isJob_295 : decode cL_isJob 295 = .ok (.iconst 1, 1) := by decide +kernel
theorem dL_isJob_296 : decode cL_isJob 296 = .ok (.aload_n 1, 1) := by decide +kernel
theorem dL_isJob_297 : decode cL_isJob 297 = .ok (.iconst 5, 1) := by decide +kernel
theorem dL_isJob_298 : decode cL_isJob 298 = .ok (.invokestatic 103, 3) := by decide +kernel
theorem dL_isJob_301 : decode cL_isJob 301 = .ok (.iadd, 1) := by decide +kernel
theorem dL_isJob_302 : decode cL_isJob 302 = .ok (.istore 16, 2) := by decide +kernel
theorem dL_isJob_304 : decode cL_isJob 304 = .ok (.aload_n 0, 1) := by decide +kernel
theorem dL_isJob_305 : decode cL_isJob 305 = .ok (.iconst 4, 1) := by decide +kernel
theorem dL_isJob_306 : decode cL_isJob 306 = .ok (.invokevirtual 57, 3) := by decide +kernel
theorem dL_isJob_309 : decode cL_isJob 309 = .ok (.istore 17, 2) := by decide +kernel
theorem dL_isJob_311 : decode cL_isJob 311 = .ok (.aload_n 0, 1) := by decide +kernel
theorem dL_isJob_312 : decode cL_isJob 312 = .ok (.iload 16, 2) := by decide +kernel
theorem dL_isJob_314 : decode cL_isJob 314 = .ok (.invokevirtual 49, 3) := by decide +kernel
theorem dL_isJob_317 : decode cL_isJob 317 = .ok (.istore 10, 2) := by decide +kernel
theorem dL_isJob_319 : decode cL_isJob 319 = .ok (.iload 12, 2) := by decide +kernel
theorem dL_isJob_321 : decode cL_isJob 321 = .ok (.iload 10, 2) := by decide +kernel
theorem dL_isJob_323 : decode cL_isJob 323 = .ok (.iadd, 1) := by decide +kernel
theorem dL_isJob_324 : decode cL_isJob 324 = .ok (.istore 12, 2) := by decide +kernel
theorem dL_isJob_326 : decode cL_isJob 326 = .ok (.iload 10, 2) := by decide +kernel
theorem dL_isJob_328 : decode cL_isJob 328 = .ok (.iconst 1, 1) := by decide +kernel
theorem dL_isJob_329 : decode cL_isJob 329 = .ok (.if_icmp .lt 38, 3) := by decide +kernel
theorem dL_isJob_332 : decode cL_isJob 332 = .ok (.iload 10, 2) := by decide +kernel
theorem dL_isJob_334 : decode cL_isJob 334 = .ok (.iload 16, 2) := by decide +kernel
theorem dL_isJob_336 : decode cL_isJob 336 = .ok (.if_icmp .gt 31, 3) := by decide +kernel
theorem dL_isJob_339 : decode cL_isJob 339 = .ok (.iload 10, 2) := by decide +kernel
theorem dL_isJob_341 : decode cL_isJob 341 = .ok (.iload 16, 2) := by decide +kernel
theorem dL_isJob_354 : decode cL_isJob 354 = .ok (.aload_n 0, 1) := by decide +kernel
theorem dL_isJob_355 : decode cL_isJob 355 = .ok (.iconst 4, 1) := by decide +kernel
theorem dL_isJob_356 : decode cL_isJob 356 = .ok (.invokevirtual 57, 3) := by decide +kernel
theorem dL_isJob_359 : decode cL_isJob 359 = .ok (.iload 17, 2) := by decide +kernel
theorem dL_isJob_361 : decode cL_isJob 361 = .ok (.iload 10, 2) := by decide +kernel
theorem dL_isJob_363 : decode cL_isJob 363 = .ok (.iadd, 1) := by decide +kernel
theorem dL_isJob_364 : decode cL_isJob 364 = .ok (.if_icmp .eq 5, 3) := by decide +kernel
theorem dL_isJob_343 : decode cL_isJob 343 = .ok (.if_icmp .ge 11, 3) := by decide +kernel
theorem dL_isJob_346 : decode cL_isJob 346 = .ok (.aload_n 0, 1) := by decide +kernel
theorem dL_isJob_347 : decode cL_isJob 347 = .ok (.iconst 1, 1) := by decide +kernel
theorem dL_isJob_348 : decode cL_isJob 348 = .ok (.invokevirtual 57, 3) := by decide +kernel
theorem dL_isJob_351 : decode cL_isJob 351 = .ok (.ifCond .eq 16, 3) := by decide +kernel
theorem dL_isJob_223 : decode cL_isJob 223 = .ok (.ifCond .ne 72, 3) := by decide +kernel
theorem dL_isJob_226 : decode cL_isJob 226 = .ok (.iload 13, 2) := by decide +kernel
theorem dL_isJob_228 : decode cL_isJob 228 = .ok (.iconst 5, 1) := by decide +kernel
theorem dL_isJob_229 : decode cL_isJob 229 = .ok (.if_icmp .ge 66, 3) := by decide +kernel
theorem dL_isJob_232 : decode cL_isJob 232 = .ok (.aload_n 0, 1) := by decide +kernel
theorem dL_isJob_233 : decode cL_isJob 233 = .ok (.iconst 4, 1) := by decide +kernel
theorem dL_isJob_234 : decode cL_isJob 234 = .ok (.invokevirtual 57, 3) := by decide +kernel
theorem dL_isJob_237 : decode cL_isJob 237 = .ok (.istore 16, 2) := by decide +kernel
theorem dL_isJob_239 : decode cL_isJob 239 = .ok (.aload_n 0, 1) := by decide +kernel
theorem dL_isJob_240 : decode cL_isJob 240 = .ok (.invokevirtual 53, 3) := by decide +kernel
theorem dL_isJob_243 : decode cL_isJob 243 = .ok (.istore 17, 2) := by decide +kernel
theorem dL_isJob_245 : decode cL_isJob 245 = .ok (.iload 11, 2) := by decide +kernel
theorem dL_isJob_247 : decode cL_isJob 247 = .ok (.iload 17, 2) := by decide +kernel
theorem dL_isJob_249 : decode cL_isJob 249 = .ok (.iadd, 1) := by decide +kernel
theorem dL_isJob_250 : decode cL_isJob 250 = .ok (.istore 11, 2) := by decide +kernel
theorem dL_isJob_252 : decode cL_isJob 252 = .ok (.iinc 13 1, 3) := by decide +kernel
theorem dL_isJob_255 : decode cL_isJob 255 = .ok (.iload 17, 2) := by decide +kernel
theorem dL_isJob_257 : decode cL_isJob 257 = .ok (.ifCond .lt 30, 3) := by decide +kernel
theorem dL_isJob_260 : decode cL_isJob 260 = .ok (.aload_n 0, 1) := by decide +kernel
theorem dL_isJob_261 : decode cL_isJob 261 = .ok (.iconst 3, 1) := by decide +kernel
theorem dL_isJob_262 : decode cL_isJob 262 = .ok (.invokevirtual 57, 3) := by decide +kernel
theorem dL_isJob_265 : decode cL_isJob 265 = .ok (.iload 15, 2) := by decide +kernel
theorem dL_isJob_267 : decode cL_isJob 267 = .ok (.if_icmp .ne 20, 3) := by decide +kernel
theorem dL_isJob_270 : decode cL_isJob 270 = .ok (.aload_n 0, 1) := by decide +kernel
theorem dL_isJob_271 : decode cL_isJob 271 = .ok (.iconst 4, 1) := by decide +kernel
theorem dL_isJob_272 : decode cL_isJob 272 = .ok (.invokevirtual 57, 3) := by decide +kernel
theorem dL_isJob_275 : decode cL_isJob 275 = .ok (.iload 16, 2) := by decide +kernel
theorem dL_isJob_277 : decode cL_isJob 277 = .ok (.if_icmp .ne 10, 3) := by decide +kernel
theorem dL_isJob_280 : decode cL_isJob 280 = .ok (.aload_n 0, 1) := by decide +kernel
theorem dL_isJob_281 : decode cL_isJob 281 = .ok (.invokevirtual 53, 3) := by decide +kernel
theorem dL_isJob_284 : decode cL_isJob 284 = .ok (.ifCond .eq 5, 3) := by decide +kernel
theorem dL_isJob_289 : decode cL_isJob 289 = .ok (.iinc 13 1, 3) := by decide +kernel
theorem dL_isJob_292 : decode cL_isJob 292 = .ok (.goto 77, 3) := by decide +kernel
theorem dL_isJob_127 : decode cL_isJob 127 = .ok (.if_icmp .ne 7, 3) := by decide +kernel
theorem dL_isJob_134 : decode cL_isJob 134 = .ok (.aload_n 0, 1) := by decide +kernel
theorem dL_isJob_135 : decode cL_isJob 135 = .ok (.iload_n 2, 1) := by decide +kernel
theorem dL_isJob_136 : decode cL_isJob 136 = .ok (.invokevirtual 100, 3) := by decide +kernel
theorem dL_isJob_130 : decode cL_isJob 130 = .ok (.iconst 0, 1) := by decide +kernel
theorem dL_isJob_131 : decode cL_isJob 131 = .ok (.goto 8, 3) := by decide +kernel
theorem dL_isJob_112 : decode cL_isJob 112 = .ok (.if_icmp .ge 7, 3) := by decide +kernel
theorem dL_isJob_119 : decode cL_isJob 119 = .ok (.iconst 0, 1) := by decide +kernel
theorem dL_isJob_115 : decode cL_isJob 115 = .ok (.iconst 1, 1) := by decide +kernel
theorem dL_isJob_116 : decode cL_isJob 116 = .ok (.goto 4, 3) := by decide +kernel
theorem dL_isJob_101 : decode cL_isJob 101 = .ok (.if_icmp .ne 7, 3) := by decide +kernel
theorem dL_isJob_108 : decode cL_isJob 108 = .ok (.iconst 0, 1) := by decide +kernel
theorem dL_isJob_104 : decode cL_isJob 104 = .ok (.iconst 1, 1) := by decide +kernel
theorem dL_isJob_105 : decode cL_isJob 105 = .ok (.goto 4, 3) := by decide +kernel

set_option maxHeartbeats 8000000 in
set_option maxRecDepth 100000 in
theorem c_L_isJob (l : Launch) (hlf : l.stackTraces = false) (dC : Nat → ClassId) (dI : Nat → Nat → Nat) (g : Nat → ClassId) (tp_p_ hd_p_ : Nat → Nat) (tf_p_ cf_p_ : Nat → Option Nat) (htf_p_ : ∀ j, j < 8 → tf_p_ j = some (tp_p_ j)) (hcf_p_ : ∀ j, j < 8 → cf_p_ j = some (tp_p_ (8 + j))) (a_p_ : Nat → Nat) (t_p_ : Nat) (h_p_ : a_p_ 0 = t_p_) (o_p_ : OS) (a_r_ n_r_ : Nat) (r_ : Nat → Int32) (tape : Int32) (to_ : Int32) (order : Int32) (Q : Bool → (Nat → Int32) → OS → Prop) (hw : wp_L_isJob o_p_ n_r_ r_ tape to_ order Q) (sz : Nat) : Met l yL_isJob wqL_isJob ({ frames := 10, cells := 11599, slots := 70176, locals := 174 }) (va_Pc [.ref t_p_, .ref a_r_, .int tape, .int to_, .int order] (PG (dC, dI) g ([(a_r_, .inl (g 0, n_r_, .inl r_))] ++ (offS a_p_ tp_p_ hd_p_ tf_p_ cf_p_ g o_p_)) sz)) (va_Qi (fun (r : Int32) (u : (Nat → Int32) × (Nat → Nat) × OS × Unit) => ∃ b : Bool, r = b2i b ∧ (Q b u.1 u.2.2.1 ∧ u.2.1 0 = t_p_)) (fun (u : (Nat → Int32) × (Nat → Nat) × OS × Unit) t9 => va_P (dC, dI) vwCl ([(a_r_, .inl (g 0, n_r_, .inl u.1))] ++ (offS u.2.1 tp_p_ hd_p_ tf_p_ cf_p_ g u.2.2.1)) t9.heap ∧ va_D (va_A ([(a_r_, .inl (g 0, n_r_, .inl r_))] ++ (offS a_p_ tp_p_ hd_p_ tf_p_ cf_p_ g o_p_)) sz) ([(a_r_, .inl (g 0, n_r_, .inl u.1))] ++ (offS u.2.1 tp_p_ hd_p_ tf_p_ cf_p_ g u.2.2.1))) (va_A ([(a_r_, .inl (g 0, n_r_, .inl r_))] ++ (offS a_p_ tp_p_ hd_p_ tf_p_ cf_p_ g o_p_)) sz)) 11599 70176 (va_A ([(a_r_, .inl (g 0, n_r_, .inl r_))] ++ (offS a_p_ tp_p_ hd_p_ tf_p_ cf_p_ g o_p_)) sz) := by
  refine Met.ofW (cc := cL_isJob) (maxL := 18) (ret := (some .boolean)) (by decide) rfl ?_
  intro p e s m args below meth c s₁ B hml hv
  obtain ⟨rfl, hsz, hP, hK, hD0, hG⟩ := hv
  have hx := B.exec
  have hb := B.bytes
  have hr := B.returns
  have hts := atoms_spec (ws := wqL_isJob) B.pre
  have hown : s.vm.findClass RL = some m.cls := findClass_of_methodNamed B.named
  have hlocks := B.notSynchronized
  subst hsz
  have hD := hD0.self (sz := s.heap.size)
  generalize hAe : va_A ([(a_r_, .inl (g 0, n_r_, .inl r_))] ++ (offS a_p_ tp_p_ hd_p_ tf_p_ cf_p_ g o_p_)) s.heap.size = A at hD hG ⊢
  have hA : ∀ q : Nat, s.heap.size ≤ q → A q := fun q h => by rw [← hAe]; exact Or.inr h
  have hS : va_S A s.heap s.heap [] := va_S.rf
  have hrc : (headSpec wqL_isJob ({ frames := 10, cells := 11599, slots := 70176, locals := 174 })).room.cells = 11599 := rfl
  have hrs : (headSpec wqL_isJob ({ frames := 10, cells := 11599, slots := 70176, locals := 174 })).room.slots = 70176 := rfl
  have hl := lv_entry ([.ref t_p_, .ref a_r_, .int tape, .int to_, .int order]) (n := 18) (Nat.le_of_ble_eq_true rfl)
  rw [lg_entry_eq]
  generalize (lg_sl ([.ref t_p_, .ref a_r_, .int tape, .int to_, .int order]) ++ List.replicate (18 - (lg_sl ([.ref t_p_, .ref a_r_, .int tape, .int to_, .int order])).length) Slot.unset).toArray = ls at hl ⊢
  have hl : lv_has ls 18 [(0, .ref t_p_), (1, .ref a_r_), (2, .int tape), (3, .int to_), (4, .int order)] := hl
  unfold wp_L_isJob at hw
  refine lv_aload_n hx hb dL_isJob_0 rfl (lv_at hl 0 rfl) ?_
  refine lv_aload_n hx hb dL_isJob_1 rfl (lv_at hl 0 rfl) ?_
  refine lv_iload_n hx hb dL_isJob_2 rfl (lv_at hl 2 rfl) ?_
  obtain ⟨hPs, hDs⟩ := seg_call (segs := [[(a_r_, .inl (g 0, n_r_, .inl r_))], offS a_p_ tp_p_ hd_p_ tf_p_ cf_p_ g o_p_]) [[(a_r_, .inl (g 0, n_r_, .inl r_))]] [offS a_p_ tp_p_ hd_p_ tf_p_ cf_p_ g o_p_] 2 [0, 1] rfl rfl (by decide) hP hD
  have hPc : va_P (dC, dI) vwCl (offS a_p_ tp_p_ hd_p_ tf_p_ cf_p_ g o_p_) s.heap := P_r hPs
  have hDc : va_D A (offS a_p_ tp_p_ hd_p_ tf_p_ cf_p_ g o_p_) := D_r hDs
  have hFc : ∀ q, va_A (offS a_p_ tp_p_ hd_p_ tf_p_ cf_p_ g o_p_) s.heap.size q → A q := A_all hDc hA hS.1
  refine va_callq (va_runS (As := [.ref t_p_, .int tape]) (rest := [.ref t_p_]) ⟨hx, hb, hml, hown, hts⟩ (c_L_tape l hlf dC dI g (tp_p_ := tp_p_) (hd_p_ := hd_p_) (tf_p_ := tf_p_) (cf_p_ := cf_p_) (htf_p_ := htf_p_) (hcf_p_ := hcf_p_) (a_p_ := a_p_) (t_p_ := t_p_) (h_p_ := h_p_) (o_p_ := o_p_) (tape := tape) (hw := hw) (sz := s.heap.size)) (va_cwS 2 hts (gqS aw_3_158 aw_3_159 aw_1_0 aw_3_160) rfl rfl rfl (by decide +kernel) ⟨Nat.le_of_ble_eq_true rfl, Nat.le_of_ble_eq_true rfl⟩) ⟨PG_blind, PG_call hK hG hS hPc hDc hFc⟩ rfl rfl hl.1 rfl (lv_room (Nat.le_of_ble_eq_true rfl)) dL_isJob_3 ⟨by rw [hrc]; omega, by rw [hrs]; omega⟩) hS (fun q _ h => hFc q h) hFc (fun r_1 u_1 t_1 H_1 L_1 ht_1 hvm_1 hw_1 hB_1 hz_1 hk_1 hS => ?_)
  obtain ⟨ad_2, o_3, a_q_4, n_5, q_6, u_1⟩ := u_1
  obtain ⟨rfl, ⟨hw, had_2⟩⟩ := hw_1
  rw [ht_1] at hB_1
  obtain ⟨hP1, hD1⟩ := hB_1
  obtain ⟨hP, hD⟩ := join_r hPs hDs hk_1 hFc hP1 hD1
  obtain ⟨hP, hD⟩ := seg_join [[(a_r_, .inl (g 0, n_r_, .inl r_))]] [[(a_q_4, .inl (g 0, n_5, .inl q_6))], offS ad_2 tp_p_ hd_p_ tf_p_ cf_p_ g o_3] [[(a_r_, .inl (g 0, n_r_, .inl r_))], [(a_q_4, .inl (g 0, n_5, .inl q_6))], offS ad_2 tp_p_ hd_p_ tf_p_ cf_p_ g o_3] 3 [0, 1, 2] rfl rfl (by decide) hP hD
  have hP : va_P (dC, dI) vwCl ([(a_r_, .inl (g 0, n_r_, .inl r_)), (a_q_4, .inl (g 0, n_5, .inl q_6))] ++ (offS ad_2 tp_p_ hd_p_ tf_p_ cf_p_ g o_3)) H_1 := hP
  have hD : va_D A ([(a_r_, .inl (g 0, n_r_, .inl r_)), (a_q_4, .inl (g 0, n_5, .inl q_6))] ++ (offS ad_2 tp_p_ hd_p_ tf_p_ cf_p_ g o_3)) := hD
  refine W.widen (k := 204) (n := 1418) (by omega) (by omega) ?_
  refine lv_iload hx hb dL_isJob_6 (lv_at hl 4 rfl) ?_
  obtain ⟨hPs, hDs⟩ := seg_call (segs := [[(a_r_, .inl (g 0, n_r_, .inl r_))], [(a_q_4, .inl (g 0, n_5, .inl q_6))], offS ad_2 tp_p_ hd_p_ tf_p_ cf_p_ g o_3]) [[(a_r_, .inl (g 0, n_r_, .inl r_))]] [[(a_q_4, .inl (g 0, n_5, .inl q_6))], offS ad_2 tp_p_ hd_p_ tf_p_ cf_p_ g o_3] 3 [0, 1, 2] rfl rfl (by decide) hP hD
  have hPc : va_P (dC, dI) vwCl ([(a_q_4, .inl (g 0, n_5, .inl q_6))] ++ (offS ad_2 tp_p_ hd_p_ tf_p_ cf_p_ g o_3)) H_1 := P_r hPs
  have hDc : va_D A ([(a_q_4, .inl (g 0, n_5, .inl q_6))] ++ (offS ad_2 tp_p_ hd_p_ tf_p_ cf_p_ g o_3)) := D_r hDs
  have hFc : ∀ q, va_A ([(a_q_4, .inl (g 0, n_5, .inl q_6))] ++ (offS ad_2 tp_p_ hd_p_ tf_p_ cf_p_ g o_3)) H_1.size q → A q := A_all hDc hA hS.1
  refine va_callq (va_runS (As := [.ref t_p_, .ref a_q_4, .int order]) (rest := []) ⟨hx, hb, hml, hown, hts⟩ (c_L_sorted_s l hlf dC dI g (tp_p_ := tp_p_) (hd_p_ := hd_p_) (tf_p_ := tf_p_) (cf_p_ := cf_p_) (htf_p_ := htf_p_) (hcf_p_ := hcf_p_) (a_p_ := ad_2) (t_p_ := t_p_) (h_p_ := had_2) (o_p_ := o_3) (a_all := a_q_4) (n_all := n_5) (all := q_6) (order := order) (hw := hw) (sz := H_1.size)) (va_cwS 3 hts (gqS aw_4_39 aw_4_40 aw_1_0 aw_4_41) rfl rfl rfl (by decide +kernel) ⟨Nat.le_of_ble_eq_true rfl, Nat.le_of_ble_eq_true rfl⟩) ⟨PG_blind, PG_call hK hG hS hPc hDc hFc⟩ rfl rfl hl.1 rfl (lv_room (Nat.le_of_ble_eq_true rfl)) dL_isJob_8 ⟨by rw [hrc]; omega, by rw [hrs]; omega⟩) hS (fun q _ h => hFc q h) hFc (fun r_7 u_7 t_7 H_7 L_7 ht_7 hvm_7 hw_7 hB_7 hz_7 hk_7 hS => ?_)
  obtain ⟨ad_8, o_9, a_q_10, n_11, q_12, u_7⟩ := u_7
  obtain ⟨rfl, ⟨hw, had_8⟩⟩ := hw_7
  rw [ht_7] at hB_7
  obtain ⟨hP1, hD1⟩ := hB_7
  obtain ⟨hP, hD⟩ := join_r hPs hDs hk_7 hFc hP1 hD1
  obtain ⟨hP, hD⟩ := seg_join [[(a_r_, .inl (g 0, n_r_, .inl r_))]] [[(a_q_4, .inl (g 0, n_5, .inl q_6))], [(a_q_10, .inl (g 0, n_11, .inl q_12))], offS ad_8 tp_p_ hd_p_ tf_p_ cf_p_ g o_9] [[(a_r_, .inl (g 0, n_r_, .inl r_))], [(a_q_4, .inl (g 0, n_5, .inl q_6))], [(a_q_10, .inl (g 0, n_11, .inl q_12))], offS ad_8 tp_p_ hd_p_ tf_p_ cf_p_ g o_9] 4 [0, 1, 2, 3] rfl rfl (by decide) hP hD
  have hP : va_P (dC, dI) vwCl ([(a_r_, .inl (g 0, n_r_, .inl r_)), (a_q_4, .inl (g 0, n_5, .inl q_6)), (a_q_10, .inl (g 0, n_11, .inl q_12))] ++ (offS ad_8 tp_p_ hd_p_ tf_p_ cf_p_ g o_9)) H_7 := hP
  have hD : va_D A ([(a_r_, .inl (g 0, n_r_, .inl r_)), (a_q_4, .inl (g 0, n_5, .inl q_6)), (a_q_10, .inl (g 0, n_11, .inl q_12))] ++ (offS ad_8 tp_p_ hd_p_ tf_p_ cf_p_ g o_9)) := hD
  refine W.widen (k := 3733) (n := 22786) (by omega) (by omega) ?_
  refine lv_astore (lv' := [(5, .ref a_q_10), (0, .ref t_p_), (1, .ref a_r_), (2, .int tape), (3, .int to_), (4, .int order)]) hx hb dL_isJob_11 hl (by decide) rfl (fun ls hl => ?_)
  refine lv_aload_n hx hb dL_isJob_13 rfl (lv_at hl 1 rfl) ?_
  refine lv_iload_n hx hb dL_isJob_14 rfl (lv_at hl 3 rfl) ?_
  obtain ⟨hPs, hDs⟩ := seg_call (segs := [[(a_r_, .inl (g 0, n_r_, .inl r_))], [(a_q_4, .inl (g 0, n_5, .inl q_6))], [(a_q_10, .inl (g 0, n_11, .inl q_12))], offS ad_8 tp_p_ hd_p_ tf_p_ cf_p_ g o_9]) [[(a_r_, .inl (g 0, n_r_, .inl r_))], [(a_q_4, .inl (g 0, n_5, .inl q_6))], [(a_q_10, .inl (g 0, n_11, .inl q_12))]] [offS ad_8 tp_p_ hd_p_ tf_p_ cf_p_ g o_9] 4 [0, 1, 2, 3] rfl rfl (by decide) hP hD
  have hPc : va_P (dC, dI) vwCl (offS ad_8 tp_p_ hd_p_ tf_p_ cf_p_ g o_9) H_7 := P_r hPs
  have hDc : va_D A (offS ad_8 tp_p_ hd_p_ tf_p_ cf_p_ g o_9) := D_r hDs
  have hFc : ∀ q, va_A (offS ad_8 tp_p_ hd_p_ tf_p_ cf_p_ g o_9) H_7.size q → A q := A_all hDc hA hS.1
  refine vx_calli (vx_runV (As := [.int tape]) (rest := []) ⟨hx, hb, hml, hown, hts⟩ (p_runs l hlf dC dI g tp_p_ hd_p_ tf_p_ cf_p_ htf_p_ hcf_p_ ad_8 t_p_ had_8 o_9 tape (hw := hw) (sz := H_7.size)) (cwV 1 hts (gqV aw_3_177 aw_3_178 aw_3_179 aw_1_1 aw_3_180) rfl rfl rfl (by decide +kernel) ⟨Nat.le_of_ble_eq_true rfl, Nat.le_of_ble_eq_true rfl⟩) ⟨PG_blind, off_recv had_8 hK hPc, PG_call hK hG hS hPc hDc hFc⟩ rfl rfl hl.1 rfl (lv_room (Nat.le_of_ble_eq_true rfl)) dL_isJob_15 ⟨by rw [hrc]; omega, by rw [hrs]; omega⟩) hS (fun q _ h => hFc q h) hFc (fun q _ h => hFc q h) (fun E ce q9 ux t H1 locs1 ht hvm hp9 hB9 hz hk hS9 hce hcv hcl => ?_) (fun r_13 u_13 t_13 H_13 L_13 ht_13 hvm_13 hw_13 hB_13 hz_13 hk_13 hS => ?_)
  · exact (hB9.1.1).elim
  obtain ⟨ad_14, o_15⟩ := u_13
  obtain ⟨hw, had_14⟩ := hw_13
  rw [ht_13] at hB_13
  obtain ⟨hP1, hD1⟩ := hB_13
  obtain ⟨hP, hD⟩ := join_r hPs hDs hk_13 hFc hP1 hD1
  obtain ⟨hP, hD⟩ := seg_join [[(a_r_, .inl (g 0, n_r_, .inl r_))], [(a_q_4, .inl (g 0, n_5, .inl q_6))], [(a_q_10, .inl (g 0, n_11, .inl q_12))]] [offS ad_14 tp_p_ hd_p_ tf_p_ cf_p_ g o_15] [[(a_r_, .inl (g 0, n_r_, .inl r_))], [(a_q_4, .inl (g 0, n_5, .inl q_6))], [(a_q_10, .inl (g 0, n_11, .inl q_12))], offS ad_14 tp_p_ hd_p_ tf_p_ cf_p_ g o_15] 4 [0, 1, 2, 3] rfl rfl (by decide) hP hD
  have hP : va_P (dC, dI) vwCl ([(a_r_, .inl (g 0, n_r_, .inl r_)), (a_q_4, .inl (g 0, n_5, .inl q_6)), (a_q_10, .inl (g 0, n_11, .inl q_12))] ++ (offS ad_14 tp_p_ hd_p_ tf_p_ cf_p_ g o_15)) H_13 := hP
  have hD : va_D A ([(a_r_, .inl (g 0, n_r_, .inl r_)), (a_q_4, .inl (g 0, n_5, .inl q_6)), (a_q_10, .inl (g 0, n_11, .inl q_12))] ++ (offS ad_14 tp_p_ hd_p_ tf_p_ cf_p_ g o_15)) := hD
  refine W.widen (k := 3734) (n := 22792) (by omega) (by omega) ?_
  refine lv_istore (lv' := [(6, .int r_13), (5, .ref a_q_10), (0, .ref t_p_), (1, .ref a_r_), (2, .int tape), (3, .int to_), (4, .int order)]) hx hb dL_isJob_18 hl (by decide) rfl (fun ls hl => ?_)
  refine lv_aload_n hx hb dL_isJob_20 rfl (lv_at hl 2 rfl) ?_
  refine lv_iload_n hx hb dL_isJob_21 rfl (lv_at hl 4 rfl) ?_
  refine lv_iconst (v := 0) hx hb dL_isJob_22 (by decide) ?_
  obtain ⟨hPs, hDs⟩ := seg_call (segs := [[(a_r_, .inl (g 0, n_r_, .inl r_))], [(a_q_4, .inl (g 0, n_5, .inl q_6))], [(a_q_10, .inl (g 0, n_11, .inl q_12))], offS ad_14 tp_p_ hd_p_ tf_p_ cf_p_ g o_15]) [[(a_r_, .inl (g 0, n_r_, .inl r_))], [(a_q_4, .inl (g 0, n_5, .inl q_6))], [(a_q_10, .inl (g 0, n_11, .inl q_12))]] [offS ad_14 tp_p_ hd_p_ tf_p_ cf_p_ g o_15] 4 [0, 1, 2, 3] rfl rfl (by decide) hP hD
  have hPc : va_P (dC, dI) vwCl (offS ad_14 tp_p_ hd_p_ tf_p_ cf_p_ g o_15) H_13 := P_r hPs
  have hDc : va_D A (offS ad_14 tp_p_ hd_p_ tf_p_ cf_p_ g o_15) := D_r hDs
  have hFc : ∀ q, va_A (offS ad_14 tp_p_ hd_p_ tf_p_ cf_p_ g o_15) H_13.size q → A q := A_all hDc hA hS.1
  refine vx_calli (vx_runV (As := [.int tape, .int 0]) (rest := []) ⟨hx, hb, hml, hown, hts⟩ (p_plan l hlf dC dI g tp_p_ hd_p_ tf_p_ cf_p_ htf_p_ hcf_p_ ad_14 t_p_ had_14 o_15 tape 0 (hw := hw) (sz := H_13.size)) (cwV 2 hts (gqV aw_4_56 aw_4_57 aw_4_58 aw_1_1 aw_4_59) rfl rfl rfl (by decide +kernel) ⟨Nat.le_of_ble_eq_true rfl, Nat.le_of_ble_eq_true rfl⟩) ⟨PG_blind, off_recv had_14 hK hPc, PG_call hK hG hS hPc hDc hFc⟩ rfl rfl hl.1 rfl (lv_room (Nat.le_of_ble_eq_true rfl)) dL_isJob_23 ⟨by rw [hrc]; omega, by rw [hrs]; omega⟩) hS (fun q _ h => hFc q h) hFc (fun q _ h => hFc q h) (fun E ce q9 ux t H1 locs1 ht hvm hp9 hB9 hz hk hS9 hce hcv hcl => ?_) (fun r_16 u_16 t_16 H_16 L_16 ht_16 hvm_16 hw_16 hB_16 hz_16 hk_16 hS => ?_)
  · exact (hB9.1.1).elim
  obtain ⟨ad_17, o_18⟩ := u_16
  obtain ⟨hw, had_17⟩ := hw_16
  rw [ht_16] at hB_16
  obtain ⟨hP1, hD1⟩ := hB_16
  obtain ⟨hP, hD⟩ := join_r hPs hDs hk_16 hFc hP1 hD1
  obtain ⟨hP, hD⟩ := seg_join [[(a_r_, .inl (g 0, n_r_, .inl r_))], [(a_q_4, .inl (g 0, n_5, .inl q_6))], [(a_q_10, .inl (g 0, n_11, .inl q_12))]] [offS ad_17 tp_p_ hd_p_ tf_p_ cf_p_ g o_18] [[(a_r_, .inl (g 0, n_r_, .inl r_))], [(a_q_4, .inl (g 0, n_5, .inl q_6))], [(a_q_10, .inl (g 0, n_11, .inl q_12))], offS ad_17 tp_p_ hd_p_ tf_p_ cf_p_ g o_18] 4 [0, 1, 2, 3] rfl rfl (by decide) hP hD
  have hP : va_P (dC, dI) vwCl ([(a_r_, .inl (g 0, n_r_, .inl r_)), (a_q_4, .inl (g 0, n_5, .inl q_6)), (a_q_10, .inl (g 0, n_11, .inl q_12))] ++ (offS ad_17 tp_p_ hd_p_ tf_p_ cf_p_ g o_18)) H_16 := hP
  have hD : va_D A ([(a_r_, .inl (g 0, n_r_, .inl r_)), (a_q_4, .inl (g 0, n_5, .inl q_6)), (a_q_10, .inl (g 0, n_11, .inl q_12))] ++ (offS ad_17 tp_p_ hd_p_ tf_p_ cf_p_ g o_18)) := hD
  refine W.widen (k := 3736) (n := 22804) (by omega) (by omega) ?_
  refine lv_istore (lv' := [(7, .int r_16), (6, .int r_13), (5, .ref a_q_10), (0, .ref t_p_), (1, .ref a_r_), (2, .int tape), (3, .int to_), (4, .int order)]) hx hb dL_isJob_26 hl (by decide) rfl (fun ls hl => ?_)
  refine lv_aload_n hx hb dL_isJob_28 rfl (lv_at hl 3 rfl) ?_
  refine lv_iload_n hx hb dL_isJob_29 rfl (lv_at hl 5 rfl) ?_
  refine lv_iconst (v := 1) hx hb dL_isJob_30 (by decide) ?_
  obtain ⟨hPs, hDs⟩ := seg_call (segs := [[(a_r_, .inl (g 0, n_r_, .inl r_))], [(a_q_4, .inl (g 0, n_5, .inl q_6))], [(a_q_10, .inl (g 0, n_11, .inl q_12))], offS ad_17 tp_p_ hd_p_ tf_p_ cf_p_ g o_18]) [[(a_r_, .inl (g 0, n_r_, .inl r_))], [(a_q_4, .inl (g 0, n_5, .inl q_6))], [(a_q_10, .inl (g 0, n_11, .inl q_12))]] [offS ad_17 tp_p_ hd_p_ tf_p_ cf_p_ g o_18] 4 [0, 1, 2, 3] rfl rfl (by decide) hP hD
  have hPc : va_P (dC, dI) vwCl (offS ad_17 tp_p_ hd_p_ tf_p_ cf_p_ g o_18) H_16 := P_r hPs
  have hDc : va_D A (offS ad_17 tp_p_ hd_p_ tf_p_ cf_p_ g o_18) := D_r hDs
  have hFc : ∀ q, va_A (offS ad_17 tp_p_ hd_p_ tf_p_ cf_p_ g o_18) H_16.size q → A q := A_all hDc hA hS.1
  refine vx_calli (vx_runV (As := [.int tape, .int 1]) (rest := []) ⟨hx, hb, hml, hown, hts⟩ (p_plan l hlf dC dI g tp_p_ hd_p_ tf_p_ cf_p_ htf_p_ hcf_p_ ad_17 t_p_ had_17 o_18 tape 1 (hw := hw) (sz := H_16.size)) (cwV 2 hts (gqV aw_4_56 aw_4_57 aw_4_58 aw_1_1 aw_4_59) rfl rfl rfl (by decide +kernel) ⟨Nat.le_of_ble_eq_true rfl, Nat.le_of_ble_eq_true rfl⟩) ⟨PG_blind, off_recv had_17 hK hPc, PG_call hK hG hS hPc hDc hFc⟩ rfl rfl hl.1 rfl (lv_room (Nat.le_of_ble_eq_true rfl)) dL_isJob_31 ⟨by rw [hrc]; omega, by rw [hrs]; omega⟩) hS (fun q _ h => hFc q h) hFc (fun q _ h => hFc q h) (fun E ce q9 ux t H1 locs1 ht hvm hp9 hB9 hz hk hS9 hce hcv hcl => ?_) (fun r_19 u_19 t_19 H_19 L_19 ht_19 hvm_19 hw_19 hB_19 hz_19 hk_19 hS => ?_)
  · exact (hB9.1.1).elim
  obtain ⟨ad_20, o_21⟩ := u_19
  obtain ⟨hw, had_20⟩ := hw_19
  rw [ht_19] at hB_19
  obtain ⟨hP1, hD1⟩ := hB_19
  obtain ⟨hP, hD⟩ := join_r hPs hDs hk_19 hFc hP1 hD1
  obtain ⟨hP, hD⟩ := seg_join [[(a_r_, .inl (g 0, n_r_, .inl r_))], [(a_q_4, .inl (g 0, n_5, .inl q_6))], [(a_q_10, .inl (g 0, n_11, .inl q_12))]] [offS ad_20 tp_p_ hd_p_ tf_p_ cf_p_ g o_21] [[(a_r_, .inl (g 0, n_r_, .inl r_))], [(a_q_4, .inl (g 0, n_5, .inl q_6))], [(a_q_10, .inl (g 0, n_11, .inl q_12))], offS ad_20 tp_p_ hd_p_ tf_p_ cf_p_ g o_21] 4 [0, 1, 2, 3] rfl rfl (by decide) hP hD
  have hP : va_P (dC, dI) vwCl ([(a_r_, .inl (g 0, n_r_, .inl r_)), (a_q_4, .inl (g 0, n_5, .inl q_6)), (a_q_10, .inl (g 0, n_11, .inl q_12))] ++ (offS ad_20 tp_p_ hd_p_ tf_p_ cf_p_ g o_21)) H_19 := hP
  have hD : va_D A ([(a_r_, .inl (g 0, n_r_, .inl r_)), (a_q_4, .inl (g 0, n_5, .inl q_6)), (a_q_10, .inl (g 0, n_11, .inl q_12))] ++ (offS ad_20 tp_p_ hd_p_ tf_p_ cf_p_ g o_21)) := hD
  refine W.widen (k := 3738) (n := 22816) (by omega) (by omega) ?_
  refine lv_aload hx hb dL_isJob_34 (lv_at hl 2 rfl) ?_
  refine va_alen hx hb hK hP 2 0 rfl rfl (v := nI n_11) rfl dL_isJob_36 ?_
  refine lv_iadd hx hb dL_isJob_37 ?_
  refine lv_topi (fun x_22 ex_22 => ?_)
  have hw := hw x_22 ex_22
  refine lv_istore (lv' := [(8, .int x_22), (7, .int r_16), (6, .int r_13), (5, .ref a_q_10), (0, .ref t_p_), (1, .ref a_r_), (2, .int tape), (3, .int to_), (4, .int order)]) hx hb dL_isJob_38 hl (by decide) rfl (fun ls hl => ?_)
  refine lv_aload_n hx hb dL_isJob_40 rfl (lv_at hl 4 rfl) ?_
  refine lv_iload_n hx hb dL_isJob_41 rfl (lv_at hl 6 rfl) ?_
  refine lv_iconst (v := 2) hx hb dL_isJob_42 (by decide) ?_
  obtain ⟨hPs, hDs⟩ := seg_call (segs := [[(a_r_, .inl (g 0, n_r_, .inl r_))], [(a_q_4, .inl (g 0, n_5, .inl q_6))], [(a_q_10, .inl (g 0, n_11, .inl q_12))], offS ad_20 tp_p_ hd_p_ tf_p_ cf_p_ g o_21]) [[(a_r_, .inl (g 0, n_r_, .inl r_))], [(a_q_4, .inl (g 0, n_5, .inl q_6))], [(a_q_10, .inl (g 0, n_11, .inl q_12))]] [offS ad_20 tp_p_ hd_p_ tf_p_ cf_p_ g o_21] 4 [0, 1, 2, 3] rfl rfl (by decide) hP hD
  have hPc : va_P (dC, dI) vwCl (offS ad_20 tp_p_ hd_p_ tf_p_ cf_p_ g o_21) H_19 := P_r hPs
  have hDc : va_D A (offS ad_20 tp_p_ hd_p_ tf_p_ cf_p_ g o_21) := D_r hDs
  have hFc : ∀ q, va_A (offS ad_20 tp_p_ hd_p_ tf_p_ cf_p_ g o_21) H_19.size q → A q := A_all hDc hA hS.1
  refine vx_calli (vx_runV (As := [.int tape, .int 2]) (rest := []) ⟨hx, hb, hml, hown, hts⟩ (p_plan l hlf dC dI g tp_p_ hd_p_ tf_p_ cf_p_ htf_p_ hcf_p_ ad_20 t_p_ had_20 o_21 tape 2 (hw := hw) (sz := H_19.size)) (cwV 2 hts (gqV aw_4_56 aw_4_57 aw_4_58 aw_1_1 aw_4_59) rfl rfl rfl (by decide +kernel) ⟨Nat.le_of_ble_eq_true rfl, Nat.le_of_ble_eq_true rfl⟩) ⟨PG_blind, off_recv had_20 hK hPc, PG_call hK hG hS hPc hDc hFc⟩ rfl rfl hl.1 rfl (lv_room (Nat.le_of_ble_eq_true rfl)) dL_isJob_43 ⟨by rw [hrc]; omega, by rw [hrs]; omega⟩) hS (fun q _ h => hFc q h) hFc (fun q _ h => hFc q h) (fun E ce q9 ux t H1 locs1 ht hvm hp9 hB9 hz hk hS9 hce hcv hcl => ?_) (fun r_23 u_23 t_23 H_23 L_23 ht_23 hvm_23 hw_23 hB_23 hz_23 hk_23 hS => ?_)
  · exact (hB9.1.1).elim
  obtain ⟨ad_24, o_25⟩ := u_23
  obtain ⟨hw, had_24⟩ := hw_23
  rw [ht_23] at hB_23
  obtain ⟨hP1, hD1⟩ := hB_23
  obtain ⟨hP, hD⟩ := join_r hPs hDs hk_23 hFc hP1 hD1
  obtain ⟨hP, hD⟩ := seg_join [[(a_r_, .inl (g 0, n_r_, .inl r_))], [(a_q_4, .inl (g 0, n_5, .inl q_6))], [(a_q_10, .inl (g 0, n_11, .inl q_12))]] [offS ad_24 tp_p_ hd_p_ tf_p_ cf_p_ g o_25] [[(a_r_, .inl (g 0, n_r_, .inl r_))], [(a_q_4, .inl (g 0, n_5, .inl q_6))], [(a_q_10, .inl (g 0, n_11, .inl q_12))], offS ad_24 tp_p_ hd_p_ tf_p_ cf_p_ g o_25] 4 [0, 1, 2, 3] rfl rfl (by decide) hP hD
  have hP : va_P (dC, dI) vwCl ([(a_r_, .inl (g 0, n_r_, .inl r_)), (a_q_4, .inl (g 0, n_5, .inl q_6)), (a_q_10, .inl (g 0, n_11, .inl q_12))] ++ (offS ad_24 tp_p_ hd_p_ tf_p_ cf_p_ g o_25)) H_23 := hP
  have hD : va_D A ([(a_r_, .inl (g 0, n_r_, .inl r_)), (a_q_4, .inl (g 0, n_5, .inl q_6)), (a_q_10, .inl (g 0, n_11, .inl q_12))] ++ (offS ad_24 tp_p_ hd_p_ tf_p_ cf_p_ g o_25)) := hD
  refine W.widen (k := 3740) (n := 22828) (by omega) (by omega) ?_
  refine lv_istore (lv' := [(9, .int r_23), (8, .int x_22), (7, .int r_16), (6, .int r_13), (5, .ref a_q_10), (0, .ref t_p_), (1, .ref a_r_), (2, .int tape), (3, .int to_), (4, .int order)]) hx hb dL_isJob_46 hl (by decide) rfl (fun ls hl => ?_)
  refine lv_aload_n hx hb dL_isJob_48 rfl (lv_at hl 5 rfl) ?_
  refine lv_iload_n hx hb dL_isJob_49 rfl (lv_at hl 7 rfl) ?_
  refine lv_iload_n hx hb dL_isJob_50 rfl (lv_at hl 8 rfl) ?_
  obtain ⟨hPs, hDs⟩ := seg_call (segs := [[(a_r_, .inl (g 0, n_r_, .inl r_))], [(a_q_4, .inl (g 0, n_5, .inl q_6))], [(a_q_10, .inl (g 0, n_11, .inl q_12))], offS ad_24 tp_p_ hd_p_ tf_p_ cf_p_ g o_25]) [[(a_r_, .inl (g 0, n_r_, .inl r_))], [(a_q_4, .inl (g 0, n_5, .inl q_6))], [(a_q_10, .inl (g 0, n_11, .inl q_12))]] [offS ad_24 tp_p_ hd_p_ tf_p_ cf_p_ g o_25] 4 [0, 1, 2, 3] rfl rfl (by decide) hP hD
  have hPc : va_P (dC, dI) vwCl (offS ad_24 tp_p_ hd_p_ tf_p_ cf_p_ g o_25) H_23 := P_r hPs
  have hDc : va_D A (offS ad_24 tp_p_ hd_p_ tf_p_ cf_p_ g o_25) := D_r hDs
  have hFc : ∀ q, va_A (offS ad_24 tp_p_ hd_p_ tf_p_ cf_p_ g o_25) H_23.size q → A q := A_all hDc hA hS.1
  refine vx_calli (vx_runV (As := [.int tape, .int to_]) (rest := []) ⟨hx, hb, hml, hown, hts⟩ (p_begin l hlf dC dI g tp_p_ hd_p_ tf_p_ cf_p_ htf_p_ hcf_p_ ad_24 t_p_ had_24 o_25 tape to_ (hw := hw) (sz := H_23.size)) (cwV 2 hts (gqV aw_4_124 aw_4_125 aw_4_126 aw_1_1 aw_4_127) rfl rfl rfl (by decide +kernel) ⟨Nat.le_of_ble_eq_true rfl, Nat.le_of_ble_eq_true rfl⟩) ⟨PG_blind, off_recv had_24 hK hPc, PG_call hK hG hS hPc hDc hFc⟩ rfl rfl hl.1 rfl (lv_room (Nat.le_of_ble_eq_true rfl)) dL_isJob_51 ⟨by rw [hrc]; omega, by rw [hrs]; omega⟩) hS (fun q _ h => hFc q h) hFc (fun q _ h => hFc q h) (fun E ce q9 ux t H1 locs1 ht hvm hp9 hB9 hz hk hS9 hce hcv hcl => ?_) (fun r_26 u_26 t_26 H_26 L_26 ht_26 hvm_26 hw_26 hB_26 hz_26 hk_26 hS => ?_)
  · exact (hB9.1.1).elim
  obtain ⟨ad_27, o_28⟩ := u_26
  obtain ⟨hw, had_27⟩ := hw_26
  rw [ht_26] at hB_26
  obtain ⟨hP1, hD1⟩ := hB_26
  obtain ⟨hP, hD⟩ := join_r hPs hDs hk_26 hFc hP1 hD1
  obtain ⟨hP, hD⟩ := seg_join [[(a_r_, .inl (g 0, n_r_, .inl r_))], [(a_q_4, .inl (g 0, n_5, .inl q_6))], [(a_q_10, .inl (g 0, n_11, .inl q_12))]] [offS ad_27 tp_p_ hd_p_ tf_p_ cf_p_ g o_28] [[(a_r_, .inl (g 0, n_r_, .inl r_))], [(a_q_4, .inl (g 0, n_5, .inl q_6))], [(a_q_10, .inl (g 0, n_11, .inl q_12))], offS ad_27 tp_p_ hd_p_ tf_p_ cf_p_ g o_28] 4 [0, 1, 2, 3] rfl rfl (by decide) hP hD
  have hP : va_P (dC, dI) vwCl ([(a_r_, .inl (g 0, n_r_, .inl r_)), (a_q_4, .inl (g 0, n_5, .inl q_6)), (a_q_10, .inl (g 0, n_11, .inl q_12))] ++ (offS ad_27 tp_p_ hd_p_ tf_p_ cf_p_ g o_28)) H_26 := hP
  have hD : va_D A ([(a_r_, .inl (g 0, n_r_, .inl r_)), (a_q_4, .inl (g 0, n_5, .inl q_6)), (a_q_10, .inl (g 0, n_11, .inl q_12))] ++ (offS ad_27 tp_p_ hd_p_ tf_p_ cf_p_ g o_28)) := hD
  refine W.widen (k := 3742) (n := 22840) (by omega) (by omega) ?_
  refine lv_iload hx hb dL_isJob_54 (lv_at hl 3 rfl) ?_
  refine lv_icmp_ne (tgt := 123) hx hb dL_isJob_56 (by decide) (fun c_29 => ?_) (fun c_29 => ?_)
  · have hw := hw.2 c_29
    refine lv_iconst (v := 0) hx hb dL_isJob_123 (by decide) ?_
    refine W.widen (k := 11599) (n := 70176) (by omega) (by omega) ?_
    obtain ⟨hP, hD⟩ := seg_sub (segs := [[(a_r_, .inl (g 0, n_r_, .inl r_))], [(a_q_4, .inl (g 0, n_5, .inl q_6))], [(a_q_10, .inl (g 0, n_11, .inl q_12))], offS ad_27 tp_p_ hd_p_ tf_p_ cf_p_ g o_28]) [[(a_r_, .inl (g 0, n_r_, .inl r_))], offS ad_27 tp_p_ hd_p_ tf_p_ cf_p_ g o_28] [[(a_q_4, .inl (g 0, n_5, .inl q_6))], [(a_q_10, .inl (g 0, n_11, .inl q_12))]] 4 [0, 3, 1, 2] rfl rfl (by decide) hP hD
    exact W.zret (v := 0) hx hb hr rfl (fun t ht hW => ⟨⟨_, (r_, ad_27, o_28, ()), rfl, ⟨false, rfl, ⟨hw, had_27⟩⟩, ⟨P_at ht hP, hD⟩⟩, hS.F ht⟩) hS.2.2 dL_isJob_124
  · have hw := hw.1 c_29
    refine lv_aload_n hx hb dL_isJob_59 rfl (lv_at hl 5 rfl) ?_
    refine lv_iconst (v := 0) hx hb dL_isJob_60 (by decide) ?_
    obtain ⟨hPs, hDs⟩ := seg_call (segs := [[(a_r_, .inl (g 0, n_r_, .inl r_))], [(a_q_4, .inl (g 0, n_5, .inl q_6))], [(a_q_10, .inl (g 0, n_11, .inl q_12))], offS ad_27 tp_p_ hd_p_ tf_p_ cf_p_ g o_28]) [[(a_r_, .inl (g 0, n_r_, .inl r_))], [(a_q_4, .inl (g 0, n_5, .inl q_6))], [(a_q_10, .inl (g 0, n_11, .inl q_12))]] [offS ad_27 tp_p_ hd_p_ tf_p_ cf_p_ g o_28] 4 [0, 1, 2, 3] rfl rfl (by decide) hP hD
    have hPc : va_P (dC, dI) vwCl (offS ad_27 tp_p_ hd_p_ tf_p_ cf_p_ g o_28) H_26 := P_r hPs
    have hDc : va_D A (offS ad_27 tp_p_ hd_p_ tf_p_ cf_p_ g o_28) := D_r hDs
    have hFc : ∀ q, va_A (offS ad_27 tp_p_ hd_p_ tf_p_ cf_p_ g o_28) H_26.size q → A q := A_all hDc hA hS.1
    refine vx_calli (vx_runV (As := [.int 0]) (rest := []) ⟨hx, hb, hml, hown, hts⟩ (p_job l hlf dC dI g tp_p_ hd_p_ tf_p_ cf_p_ htf_p_ hcf_p_ ad_27 t_p_ had_27 o_28 0 (hw := hw) (sz := H_26.size)) (cwV 1 hts (gqV aw_4_199 aw_4_200 aw_4_201 aw_1_1 aw_4_202) rfl rfl rfl (by decide +kernel) ⟨Nat.le_of_ble_eq_true rfl, Nat.le_of_ble_eq_true rfl⟩) ⟨PG_blind, off_recv had_27 hK hPc, PG_call hK hG hS hPc hDc hFc⟩ rfl rfl hl.1 rfl (lv_room (Nat.le_of_ble_eq_true rfl)) dL_isJob_61 ⟨by rw [hrc]; omega, by rw [hrs]; omega⟩) hS (fun q _ h => hFc q h) hFc (fun q _ h => hFc q h) (fun E ce q9 ux t H1 locs1 ht hvm hp9 hB9 hz hk hS9 hce hcv hcl => ?_) (fun r_30 u_30 t_30 H_30 L_30 ht_30 hvm_30 hw_30 hB_30 hz_30 hk_30 hS => ?_)
    · exact (hB9.1.1).elim
    obtain ⟨ad_31, o_32⟩ := u_30
    obtain ⟨hw, had_31⟩ := hw_30
    rw [ht_30] at hB_30
    obtain ⟨hP1, hD1⟩ := hB_30
    obtain ⟨hP, hD⟩ := join_r hPs hDs hk_30 hFc hP1 hD1
    obtain ⟨hP, hD⟩ := seg_join [[(a_r_, .inl (g 0, n_r_, .inl r_))], [(a_q_4, .inl (g 0, n_5, .inl q_6))], [(a_q_10, .inl (g 0, n_11, .inl q_12))]] [offS ad_31 tp_p_ hd_p_ tf_p_ cf_p_ g o_32] [[(a_r_, .inl (g 0, n_r_, .inl r_))], [(a_q_4, .inl (g 0, n_5, .inl q_6))], [(a_q_10, .inl (g 0, n_11, .inl q_12))], offS ad_31 tp_p_ hd_p_ tf_p_ cf_p_ g o_32] 4 [0, 1, 2, 3] rfl rfl (by decide) hP hD
    have hP : va_P (dC, dI) vwCl ([(a_r_, .inl (g 0, n_r_, .inl r_)), (a_q_4, .inl (g 0, n_5, .inl q_6)), (a_q_10, .inl (g 0, n_11, .inl q_12))] ++ (offS ad_31 tp_p_ hd_p_ tf_p_ cf_p_ g o_32)) H_30 := hP
    have hD : va_D A ([(a_r_, .inl (g 0, n_r_, .inl r_)), (a_q_4, .inl (g 0, n_5, .inl q_6)), (a_q_10, .inl (g 0, n_11, .inl q_12))] ++ (offS ad_31 tp_p_ hd_p_ tf_p_ cf_p_ g o_32)) := hD
    refine W.widen (k := 3744) (n := 22852) (by omega) (by omega) ?_
    refine lv_iload_n hx hb dL_isJob_64 rfl (lv_at hl 8 rfl) ?_
    refine lv_icmp_ne (tgt := 123) hx hb dL_isJob_65 (by decide) (fun c_33 => ?_) (fun c_33 => ?_)
    · have hw := hw.2 c_33
      refine lv_iconst (v := 0) hx hb dL_isJob_123 (by decide) ?_
      refine W.widen (k := 11599) (n := 70176) (by omega) (by omega) ?_
      obtain ⟨hP, hD⟩ := seg_sub (segs := [[(a_r_, .inl (g 0, n_r_, .inl r_))], [(a_q_4, .inl (g 0, n_5, .inl q_6))], [(a_q_10, .inl (g 0, n_11, .inl q_12))], offS ad_31 tp_p_ hd_p_ tf_p_ cf_p_ g o_32]) [[(a_r_, .inl (g 0, n_r_, .inl r_))], offS ad_31 tp_p_ hd_p_ tf_p_ cf_p_ g o_32] [[(a_q_4, .inl (g 0, n_5, .inl q_6))], [(a_q_10, .inl (g 0, n_11, .inl q_12))]] 4 [0, 3, 1, 2] rfl rfl (by decide) hP hD
      exact W.zret (v := 0) hx hb hr rfl (fun t ht hW => ⟨⟨_, (r_, ad_31, o_32, ()), rfl, ⟨false, rfl, ⟨hw, had_31⟩⟩, ⟨P_at ht hP, hD⟩⟩, hS.F ht⟩) hS.2.2 dL_isJob_124
    · have hw := hw.1 c_33
      refine lv_aload_n hx hb dL_isJob_68 rfl (lv_at hl 5 rfl) ?_
      refine lv_iconst (v := 5) hx hb dL_isJob_69 (by decide) ?_
      obtain ⟨hPs, hDs⟩ := seg_call (segs := [[(a_r_, .inl (g 0, n_r_, .inl r_))], [(a_q_4, .inl (g 0, n_5, .inl q_6))], [(a_q_10, .inl (g 0, n_11, .inl q_12))], offS ad_31 tp_p_ hd_p_ tf_p_ cf_p_ g o_32]) [[(a_r_, .inl (g 0, n_r_, .inl r_))], [(a_q_4, .inl (g 0, n_5, .inl q_6))], [(a_q_10, .inl (g 0, n_11, .inl q_12))]] [offS ad_31 tp_p_ hd_p_ tf_p_ cf_p_ g o_32] 4 [0, 1, 2, 3] rfl rfl (by decide) hP hD
      have hPc : va_P (dC, dI) vwCl (offS ad_31 tp_p_ hd_p_ tf_p_ cf_p_ g o_32) H_30 := P_r hPs
      have hDc : va_D A (offS ad_31 tp_p_ hd_p_ tf_p_ cf_p_ g o_32) := D_r hDs
      have hFc : ∀ q, va_A (offS ad_31 tp_p_ hd_p_ tf_p_ cf_p_ g o_32) H_30.size q → A q := A_all hDc hA hS.1
      refine vx_calli (vx_runV (As := [.int 5]) (rest := []) ⟨hx, hb, hml, hown, hts⟩ (p_job l hlf dC dI g tp_p_ hd_p_ tf_p_ cf_p_ htf_p_ hcf_p_ ad_31 t_p_ had_31 o_32 5 (hw := hw) (sz := H_30.size)) (cwV 1 hts (gqV aw_4_199 aw_4_200 aw_4_201 aw_1_1 aw_4_202) rfl rfl rfl (by decide +kernel) ⟨Nat.le_of_ble_eq_true rfl, Nat.le_of_ble_eq_true rfl⟩) ⟨PG_blind, off_recv had_31 hK hPc, PG_call hK hG hS hPc hDc hFc⟩ rfl rfl hl.1 rfl (lv_room (Nat.le_of_ble_eq_true rfl)) dL_isJob_70 ⟨by rw [hrc]; omega, by rw [hrs]; omega⟩) hS (fun q _ h => hFc q h) hFc (fun q _ h => hFc q h) (fun E ce q9 ux t H1 locs1 ht hvm hp9 hB9 hz hk hS9 hce hcv hcl => ?_) (fun r_34 u_34 t_34 H_34 L_34 ht_34 hvm_34 hw_34 hB_34 hz_34 hk_34 hS => ?_)
      · exact (hB9.1.1).elim
      obtain ⟨ad_35, o_36⟩ := u_34
      obtain ⟨hw, had_35⟩ := hw_34
      rw [ht_34] at hB_34
      obtain ⟨hP1, hD1⟩ := hB_34
      obtain ⟨hP, hD⟩ := join_r hPs hDs hk_34 hFc hP1 hD1
      obtain ⟨hP, hD⟩ := seg_join [[(a_r_, .inl (g 0, n_r_, .inl r_))], [(a_q_4, .inl (g 0, n_5, .inl q_6))], [(a_q_10, .inl (g 0, n_11, .inl q_12))]] [offS ad_35 tp_p_ hd_p_ tf_p_ cf_p_ g o_36] [[(a_r_, .inl (g 0, n_r_, .inl r_))], [(a_q_4, .inl (g 0, n_5, .inl q_6))], [(a_q_10, .inl (g 0, n_11, .inl q_12))], offS ad_35 tp_p_ hd_p_ tf_p_ cf_p_ g o_36] 4 [0, 1, 2, 3] rfl rfl (by decide) hP hD
      have hP : va_P (dC, dI) vwCl ([(a_r_, .inl (g 0, n_r_, .inl r_)), (a_q_4, .inl (g 0, n_5, .inl q_6)), (a_q_10, .inl (g 0, n_11, .inl q_12))] ++ (offS ad_35 tp_p_ hd_p_ tf_p_ cf_p_ g o_36)) H_34 := hP
      have hD : va_D A ([(a_r_, .inl (g 0, n_r_, .inl r_)), (a_q_4, .inl (g 0, n_5, .inl q_6)), (a_q_10, .inl (g 0, n_11, .inl q_12))] ++ (offS ad_35 tp_p_ hd_p_ tf_p_ cf_p_ g o_36)) := hD
      refine W.widen (k := 3746) (n := 22864) (by omega) (by omega) ?_
      refine lv_aload hx hb dL_isJob_73 (lv_at hl 4 rfl) ?_
      refine va_alen hx hb hK hP 2 0 rfl rfl (v := nI n_11) rfl dL_isJob_75 ?_
      refine lv_icmp_ne (tgt := 123) hx hb dL_isJob_76 (by decide) (fun c_37 => ?_) (fun c_37 => ?_)
      · have hw := hw.2 c_37
        refine lv_iconst (v := 0) hx hb dL_isJob_123 (by decide) ?_
        refine W.widen (k := 11599) (n := 70176) (by omega) (by omega) ?_
        obtain ⟨hP, hD⟩ := seg_sub (segs := [[(a_r_, .inl (g 0, n_r_, .inl r_))], [(a_q_4, .inl (g 0, n_5, .inl q_6))], [(a_q_10, .inl (g 0, n_11, .inl q_12))], offS ad_35 tp_p_ hd_p_ tf_p_ cf_p_ g o_36]) [[(a_r_, .inl (g 0, n_r_, .inl r_))], offS ad_35 tp_p_ hd_p_ tf_p_ cf_p_ g o_36] [[(a_q_4, .inl (g 0, n_5, .inl q_6))], [(a_q_10, .inl (g 0, n_11, .inl q_12))]] 4 [0, 3, 1, 2] rfl rfl (by decide) hP hD
        exact W.zret (v := 0) hx hb hr rfl (fun t ht hW => ⟨⟨_, (r_, ad_35, o_36, ()), rfl, ⟨false, rfl, ⟨hw, had_35⟩⟩, ⟨P_at ht hP, hD⟩⟩, hS.F ht⟩) hS.2.2 dL_isJob_124
      · have hw := hw.1 c_37
        refine lv_aload_n hx hb dL_isJob_79 rfl (lv_at hl 5 rfl) ?_
        refine lv_iconst (v := 4) hx hb dL_isJob_80 (by decide) ?_
        obtain ⟨hPs, hDs⟩ := seg_call (segs := [[(a_r_, .inl (g 0, n_r_, .inl r_))], [(a_q_4, .inl (g 0, n_5, .inl q_6))], [(a_q_10, .inl (g 0, n_11, .inl q_12))], offS ad_35 tp_p_ hd_p_ tf_p_ cf_p_ g o_36]) [[(a_r_, .inl (g 0, n_r_, .inl r_))], [(a_q_4, .inl (g 0, n_5, .inl q_6))], [(a_q_10, .inl (g 0, n_11, .inl q_12))]] [offS ad_35 tp_p_ hd_p_ tf_p_ cf_p_ g o_36] 4 [0, 1, 2, 3] rfl rfl (by decide) hP hD
        have hPc : va_P (dC, dI) vwCl (offS ad_35 tp_p_ hd_p_ tf_p_ cf_p_ g o_36) H_34 := P_r hPs
        have hDc : va_D A (offS ad_35 tp_p_ hd_p_ tf_p_ cf_p_ g o_36) := D_r hDs
        have hFc : ∀ q, va_A (offS ad_35 tp_p_ hd_p_ tf_p_ cf_p_ g o_36) H_34.size q → A q := A_all hDc hA hS.1
        refine vx_calli (vx_runV (As := [.int 4]) (rest := []) ⟨hx, hb, hml, hown, hts⟩ (p_job l hlf dC dI g tp_p_ hd_p_ tf_p_ cf_p_ htf_p_ hcf_p_ ad_35 t_p_ had_35 o_36 4 (hw := hw) (sz := H_34.size)) (cwV 1 hts (gqV aw_4_199 aw_4_200 aw_4_201 aw_1_1 aw_4_202) rfl rfl rfl (by decide +kernel) ⟨Nat.le_of_ble_eq_true rfl, Nat.le_of_ble_eq_true rfl⟩) ⟨PG_blind, off_recv had_35 hK hPc, PG_call hK hG hS hPc hDc hFc⟩ rfl rfl hl.1 rfl (lv_room (Nat.le_of_ble_eq_true rfl)) dL_isJob_81 ⟨by rw [hrc]; omega, by rw [hrs]; omega⟩) hS (fun q _ h => hFc q h) hFc (fun q _ h => hFc q h) (fun E ce q9 ux t H1 locs1 ht hvm hp9 hB9 hz hk hS9 hce hcv hcl => ?_) (fun r_38 u_38 t_38 H_38 L_38 ht_38 hvm_38 hw_38 hB_38 hz_38 hk_38 hS => ?_)
        · exact (hB9.1.1).elim
        obtain ⟨ad_39, o_40⟩ := u_38
        obtain ⟨hw, had_39⟩ := hw_38
        rw [ht_38] at hB_38
        obtain ⟨hP1, hD1⟩ := hB_38
        obtain ⟨hP, hD⟩ := join_r hPs hDs hk_38 hFc hP1 hD1
        obtain ⟨hP, hD⟩ := seg_join [[(a_r_, .inl (g 0, n_r_, .inl r_))], [(a_q_4, .inl (g 0, n_5, .inl q_6))], [(a_q_10, .inl (g 0, n_11, .inl q_12))]] [offS ad_39 tp_p_ hd_p_ tf_p_ cf_p_ g o_40] [[(a_r_, .inl (g 0, n_r_, .inl r_))], [(a_q_4, .inl (g 0, n_5, .inl q_6))], [(a_q_10, .inl (g 0, n_11, .inl q_12))], offS ad_39 tp_p_ hd_p_ tf_p_ cf_p_ g o_40] 4 [0, 1, 2, 3] rfl rfl (by decide) hP hD
        have hP : va_P (dC, dI) vwCl ([(a_r_, .inl (g 0, n_r_, .inl r_)), (a_q_4, .inl (g 0, n_5, .inl q_6)), (a_q_10, .inl (g 0, n_11, .inl q_12))] ++ (offS ad_39 tp_p_ hd_p_ tf_p_ cf_p_ g o_40)) H_38 := hP
        have hD : va_D A ([(a_r_, .inl (g 0, n_r_, .inl r_)), (a_q_4, .inl (g 0, n_5, .inl q_6)), (a_q_10, .inl (g 0, n_11, .inl q_12))] ++ (offS ad_39 tp_p_ hd_p_ tf_p_ cf_p_ g o_40)) := hD
        refine W.widen (k := 3748) (n := 22876) (by omega) (by omega) ?_
        refine lv_if_ne (tgt := 123) hx hb dL_isJob_84 (by decide) (fun c_41 => ?_) (fun c_41 => ?_)
        · have hw := hw.2 c_41
          refine lv_iconst (v := 0) hx hb dL_isJob_123 (by decide) ?_
          refine W.widen (k := 11599) (n := 70176) (by omega) (by omega) ?_
          obtain ⟨hP, hD⟩ := seg_sub (segs := [[(a_r_, .inl (g 0, n_r_, .inl r_))], [(a_q_4, .inl (g 0, n_5, .inl q_6))], [(a_q_10, .inl (g 0, n_11, .inl q_12))], offS ad_39 tp_p_ hd_p_ tf_p_ cf_p_ g o_40]) [[(a_r_, .inl (g 0, n_r_, .inl r_))], offS ad_39 tp_p_ hd_p_ tf_p_ cf_p_ g o_40] [[(a_q_4, .inl (g 0, n_5, .inl q_6))], [(a_q_10, .inl (g 0, n_11, .inl q_12))]] 4 [0, 3, 1, 2] rfl rfl (by decide) hP hD
          exact W.zret (v := 0) hx hb hr rfl (fun t ht hW => ⟨⟨_, (r_, ad_39, o_40, ()), rfl, ⟨false, rfl, ⟨hw, had_39⟩⟩, ⟨P_at ht hP, hD⟩⟩, hS.F ht⟩) hS.2.2 dL_isJob_124
        · have hw := hw.1 c_41
          refine lv_aload_n hx hb dL_isJob_87 rfl (lv_at hl 5 rfl) ?_
          refine lv_iconst (v := 3) hx hb dL_isJob_88 (by decide) ?_
          obtain ⟨hPs, hDs⟩ := seg_call (segs := [[(a_r_, .inl (g 0, n_r_, .inl r_))], [(a_q_4, .inl (g 0, n_5, .inl q_6))], [(a_q_10, .inl (g 0, n_11, .inl q_12))], offS ad_39 tp_p_ hd_p_ tf_p_ cf_p_ g o_40]) [[(a_r_, .inl (g 0, n_r_, .inl r_))], [(a_q_4, .inl (g 0, n_5, .inl q_6))], [(a_q_10, .inl (g 0, n_11, .inl q_12))]] [offS ad_39 tp_p_ hd_p_ tf_p_ cf_p_ g o_40] 4 [0, 1, 2, 3] rfl rfl (by decide) hP hD
          have hPc : va_P (dC, dI) vwCl (offS ad_39 tp_p_ hd_p_ tf_p_ cf_p_ g o_40) H_38 := P_r hPs
          have hDc : va_D A (offS ad_39 tp_p_ hd_p_ tf_p_ cf_p_ g o_40) := D_r hDs
          have hFc : ∀ q, va_A (offS ad_39 tp_p_ hd_p_ tf_p_ cf_p_ g o_40) H_38.size q → A q := A_all hDc hA hS.1
          refine vx_calli (vx_runV (As := [.int 3]) (rest := []) ⟨hx, hb, hml, hown, hts⟩ (p_job l hlf dC dI g tp_p_ hd_p_ tf_p_ cf_p_ htf_p_ hcf_p_ ad_39 t_p_ had_39 o_40 3 (hw := hw) (sz := H_38.size)) (cwV 1 hts (gqV aw_4_199 aw_4_200 aw_4_201 aw_1_1 aw_4_202) rfl rfl rfl (by decide +kernel) ⟨Nat.le_of_ble_eq_true rfl, Nat.le_of_ble_eq_true rfl⟩) ⟨PG_blind, off_recv had_39 hK hPc, PG_call hK hG hS hPc hDc hFc⟩ rfl rfl hl.1 rfl (lv_room (Nat.le_of_ble_eq_true rfl)) dL_isJob_89 ⟨by rw [hrc]; omega, by rw [hrs]; omega⟩) hS (fun q _ h => hFc q h) hFc (fun q _ h => hFc q h) (fun E ce q9 ux t H1 locs1 ht hvm hp9 hB9 hz hk hS9 hce hcv hcl => ?_) (fun r_42 u_42 t_42 H_42 L_42 ht_42 hvm_42 hw_42 hB_42 hz_42 hk_42 hS => ?_)
          · exact (hB9.1.1).elim
          obtain ⟨ad_43, o_44⟩ := u_42
          obtain ⟨hw, had_43⟩ := hw_42
          rw [ht_42] at hB_42
          obtain ⟨hP1, hD1⟩ := hB_42
          obtain ⟨hP, hD⟩ := join_r hPs hDs hk_42 hFc hP1 hD1
          obtain ⟨hP, hD⟩ := seg_join [[(a_r_, .inl (g 0, n_r_, .inl r_))], [(a_q_4, .inl (g 0, n_5, .inl q_6))], [(a_q_10, .inl (g 0, n_11, .inl q_12))]] [offS ad_43 tp_p_ hd_p_ tf_p_ cf_p_ g o_44] [[(a_r_, .inl (g 0, n_r_, .inl r_))], [(a_q_4, .inl (g 0, n_5, .inl q_6))], [(a_q_10, .inl (g 0, n_11, .inl q_12))], offS ad_43 tp_p_ hd_p_ tf_p_ cf_p_ g o_44] 4 [0, 1, 2, 3] rfl rfl (by decide) hP hD
          have hP : va_P (dC, dI) vwCl ([(a_r_, .inl (g 0, n_r_, .inl r_)), (a_q_4, .inl (g 0, n_5, .inl q_6)), (a_q_10, .inl (g 0, n_11, .inl q_12))] ++ (offS ad_43 tp_p_ hd_p_ tf_p_ cf_p_ g o_44)) H_42 := hP
          have hD : va_D A ([(a_r_, .inl (g 0, n_r_, .inl r_)), (a_q_4, .inl (g 0, n_5, .inl q_6)), (a_q_10, .inl (g 0, n_11, .inl q_12))] ++ (offS ad_43 tp_p_ hd_p_ tf_p_ cf_p_ g o_44)) := hD
          refine W.widen (k := 3750) (n := 22888) (by omega) (by omega) ?_
          refine lv_if_ne (tgt := 123) hx hb dL_isJob_92 (by decide) (fun c_45 => ?_) (fun c_45 => ?_)
          · have hw := hw.2 c_45
            refine lv_iconst (v := 0) hx hb dL_isJob_123 (by decide) ?_
            refine W.widen (k := 11599) (n := 70176) (by omega) (by omega) ?_
            obtain ⟨hP, hD⟩ := seg_sub (segs := [[(a_r_, .inl (g 0, n_r_, .inl r_))], [(a_q_4, .inl (g 0, n_5, .inl q_6))], [(a_q_10, .inl (g 0, n_11, .inl q_12))], offS ad_43 tp_p_ hd_p_ tf_p_ cf_p_ g o_44]) [[(a_r_, .inl (g 0, n_r_, .inl r_))], offS ad_43 tp_p_ hd_p_ tf_p_ cf_p_ g o_44] [[(a_q_4, .inl (g 0, n_5, .inl q_6))], [(a_q_10, .inl (g 0, n_11, .inl q_12))]] 4 [0, 3, 1, 2] rfl rfl (by decide) hP hD
            exact W.zret (v := 0) hx hb hr rfl (fun t ht hW => ⟨⟨_, (r_, ad_43, o_44, ()), rfl, ⟨false, rfl, ⟨hw, had_43⟩⟩, ⟨P_at ht hP, hD⟩⟩, hS.F ht⟩) hS.2.2 dL_isJob_124
          · have hw := hw.1 c_45
            refine lv_aload_n hx hb dL_isJob_95 rfl (lv_at hl 5 rfl) ?_
            refine lv_iconst (v := 1) hx hb dL_isJob_96 (by decide) ?_
            obtain ⟨hPs, hDs⟩ := seg_call (segs := [[(a_r_, .inl (g 0, n_r_, .inl r_))], [(a_q_4, .inl (g 0, n_5, .inl q_6))], [(a_q_10, .inl (g 0, n_11, .inl q_12))], offS ad_43 tp_p_ hd_p_ tf_p_ cf_p_ g o_44]) [[(a_r_, .inl (g 0, n_r_, .inl r_))], [(a_q_4, .inl (g 0, n_5, .inl q_6))], [(a_q_10, .inl (g 0, n_11, .inl q_12))]] [offS ad_43 tp_p_ hd_p_ tf_p_ cf_p_ g o_44] 4 [0, 1, 2, 3] rfl rfl (by decide) hP hD
            have hPc : va_P (dC, dI) vwCl (offS ad_43 tp_p_ hd_p_ tf_p_ cf_p_ g o_44) H_42 := P_r hPs
            have hDc : va_D A (offS ad_43 tp_p_ hd_p_ tf_p_ cf_p_ g o_44) := D_r hDs
            have hFc : ∀ q, va_A (offS ad_43 tp_p_ hd_p_ tf_p_ cf_p_ g o_44) H_42.size q → A q := A_all hDc hA hS.1
            refine vx_calli (vx_runV (As := [.int 1]) (rest := []) ⟨hx, hb, hml, hown, hts⟩ (p_job l hlf dC dI g tp_p_ hd_p_ tf_p_ cf_p_ htf_p_ hcf_p_ ad_43 t_p_ had_43 o_44 1 (hw := hw) (sz := H_42.size)) (cwV 1 hts (gqV aw_4_199 aw_4_200 aw_4_201 aw_1_1 aw_4_202) rfl rfl rfl (by decide +kernel) ⟨Nat.le_of_ble_eq_true rfl, Nat.le_of_ble_eq_true rfl⟩) ⟨PG_blind, off_recv had_43 hK hPc, PG_call hK hG hS hPc hDc hFc⟩ rfl rfl hl.1 rfl (lv_room (Nat.le_of_ble_eq_true rfl)) dL_isJob_97 ⟨by rw [hrc]; omega, by rw [hrs]; omega⟩) hS (fun q _ h => hFc q h) hFc (fun q _ h => hFc q h) (fun E ce q9 ux t H1 locs1 ht hvm hp9 hB9 hz hk hS9 hce hcv hcl => ?_) (fun r_46 u_46 t_46 H_46 L_46 ht_46 hvm_46 hw_46 hB_46 hz_46 hk_46 hS => ?_)
            · exact (hB9.1.1).elim
            obtain ⟨ad_47, o_48⟩ := u_46
            obtain ⟨hw, had_47⟩ := hw_46
            rw [ht_46] at hB_46
            obtain ⟨hP1, hD1⟩ := hB_46
            obtain ⟨hP, hD⟩ := join_r hPs hDs hk_46 hFc hP1 hD1
            obtain ⟨hP, hD⟩ := seg_join [[(a_r_, .inl (g 0, n_r_, .inl r_))], [(a_q_4, .inl (g 0, n_5, .inl q_6))], [(a_q_10, .inl (g 0, n_11, .inl q_12))]] [offS ad_47 tp_p_ hd_p_ tf_p_ cf_p_ g o_48] [[(a_r_, .inl (g 0, n_r_, .inl r_))], [(a_q_4, .inl (g 0, n_5, .inl q_6))], [(a_q_10, .inl (g 0, n_11, .inl q_12))], offS ad_47 tp_p_ hd_p_ tf_p_ cf_p_ g o_48] 4 [0, 1, 2, 3] rfl rfl (by decide) hP hD
            have hP : va_P (dC, dI) vwCl ([(a_r_, .inl (g 0, n_r_, .inl r_)), (a_q_4, .inl (g 0, n_5, .inl q_6)), (a_q_10, .inl (g 0, n_11, .inl q_12))] ++ (offS ad_47 tp_p_ hd_p_ tf_p_ cf_p_ g o_48)) H_46 := hP
            have hD : va_D A ([(a_r_, .inl (g 0, n_r_, .inl r_)), (a_q_4, .inl (g 0, n_5, .inl q_6)), (a_q_10, .inl (g 0, n_11, .inl q_12))] ++ (offS ad_47 tp_p_ hd_p_ tf_p_ cf_p_ g o_48)) := hD
            refine W.widen (k := 3752) (n := 22900) (by omega) (by omega) ?_
            refine lv_iconst (v := 1) hx hb dL_isJob_100 (by decide) ?_
            refine W_abs (fun QM hQM => ?_)
            have JN109 : ∀ (sk0_49 : Bool) (H : Heap) (locs : List Loc), (wj_L_isJob_109 n_r_ r_ tape to_ order Q n_11 q_12 r_13 r_16 x_22 r_23 o_48) sk0_49 → va_P (dC, dI) vwCl ([(a_r_, .inl (g 0, n_r_, .inl r_)), (a_q_10, .inl (g 0, n_11, .inl q_12))] ++ (offS ad_47 tp_p_ hd_p_ tf_p_ cf_p_ g o_48)) H → va_D A ([(a_r_, .inl (g 0, n_r_, .inl r_)), (a_q_10, .inl (g 0, n_11, .inl q_12))] ++ (offS ad_47 tp_p_ hd_p_ tf_p_ cf_p_ g o_48)) → va_S A s.heap H locs → ∀ (ls : Array Slot), lv_has ls 18 [(0, .ref t_p_), (1, .ref a_r_), (2, .int tape), (3, .int to_), (4, .int order), (5, .ref a_q_10), (6, .int r_13), (7, .int r_16), (8, .int x_22), (9, .int r_23)] → W p l e (headSpec wqL_isJob ({ frames := 10, cells := 11599, slots := 70176, locals := 174 })).room s m ([.ref t_p_, .ref a_r_, .int tape, .int to_, .int order] : List Value).toArray below meth c H locs 3752 22900 QM (F0 m 109 ls [.int (b2i sk0_49)]) := by
              intro sk0_49 H locs hw hP hD hS ls hl
              refine lv_iload hx hb dL_isJob_109 (lv_at hl 6 rfl) ?_
              refine lv_iconst (v := 2) hx hb dL_isJob_111 (by decide) ?_
              have JN120 : ∀ (sk0_50 : Bool) (H : Heap) (locs : List Loc), (wj_L_isJob_120 n_r_ r_ tape to_ order Q n_11 q_12 r_16 x_22 r_23 o_48 sk0_49) sk0_50 → va_P (dC, dI) vwCl ([(a_r_, .inl (g 0, n_r_, .inl r_)), (a_q_10, .inl (g 0, n_11, .inl q_12))] ++ (offS ad_47 tp_p_ hd_p_ tf_p_ cf_p_ g o_48)) H → va_D A ([(a_r_, .inl (g 0, n_r_, .inl r_)), (a_q_10, .inl (g 0, n_11, .inl q_12))] ++ (offS ad_47 tp_p_ hd_p_ tf_p_ cf_p_ g o_48)) → va_S A s.heap H locs → ∀ (ls : Array Slot), lv_has ls 18 [(0, .ref t_p_), (1, .ref a_r_), (2, .int tape), (3, .int to_), (4, .int order), (5, .ref a_q_10), (7, .int r_16), (8, .int x_22), (9, .int r_23)] → W p l e (headSpec wqL_isJob ({ frames := 10, cells := 11599, slots := 70176, locals := 174 })).room s m ([.ref t_p_, .ref a_r_, .int tape, .int to_, .int order] : List Value).toArray below meth c H locs 3752 22900 QM (F0 m 120 ls [.int (b2i sk0_50), .int (b2i sk0_49)]) := by
                intro sk0_50 H locs hw hP hD hS ls hl
                refine lv_icmp_eq (tgt := 125) hx hb dL_isJob_120 (by decide) (fun c_51 => ?_) (fun c_51 => ?_)
                · have hw := hw.1 c_51
                  refine lv_iload_n hx hb dL_isJob_125 rfl (lv_at hl 2 rfl) ?_
                  refine lv_iload_n hx hb dL_isJob_126 rfl (lv_at hl 3 rfl) ?_
                  have JN139 : ∀ (sk0_52 : Int32) (o_53 : OS) (ad_54 : Nat → Nat) (had_54 : ad_54 0 = t_p_) (H : Heap) (locs : List Loc), (wj_L_isJob_139 n_r_ r_ to_ order Q n_11 q_12 r_16 x_22 r_23) sk0_52 o_53 → va_P (dC, dI) vwCl ([(a_r_, .inl (g 0, n_r_, .inl r_)), (a_q_10, .inl (g 0, n_11, .inl q_12))] ++ (offS ad_54 tp_p_ hd_p_ tf_p_ cf_p_ g o_53)) H → va_D A ([(a_r_, .inl (g 0, n_r_, .inl r_)), (a_q_10, .inl (g 0, n_11, .inl q_12))] ++ (offS ad_54 tp_p_ hd_p_ tf_p_ cf_p_ g o_53)) → va_S A s.heap H locs → ∀ (ls : Array Slot), lv_has ls 18 [(0, .ref t_p_), (1, .ref a_r_), (3, .int to_), (4, .int order), (5, .ref a_q_10), (7, .int r_16), (8, .int x_22), (9, .int r_23)] → W p l e (headSpec wqL_isJob ({ frames := 10, cells := 11599, slots := 70176, locals := 174 })).room s m ([.ref t_p_, .ref a_r_, .int tape, .int to_, .int order] : List Value).toArray below meth c H locs 3753 22906 QM (F0 m 139 ls [.int sk0_52]) := by
                    intro sk0_52 o_53 ad_54 had_54 H locs hw hP hD hS ls hl
                    refine lv_istore (lv' := [(10, .int sk0_52), (0, .ref t_p_), (1, .ref a_r_), (3, .int to_), (4, .int order), (5, .ref a_q_10), (7, .int r_16), (8, .int x_22), (9, .int r_23)]) hx hb dL_isJob_139 hl (by decide) rfl (fun ls hl => ?_)
                    refine lv_aload_n hx hb dL_isJob_141 rfl (lv_at hl 1 rfl) ?_
                    refine lv_iconst (v := 1) hx hb dL_isJob_142 (by decide) ?_
                    refine lv_iload hx hb dL_isJob_143 (lv_at hl 4 rfl) ?_
                    refine lv_isub hx hb dL_isJob_145 ?_
                    refine lv_topi (fun x_55 ex_55 => ?_)
                    have hw := hw x_55 ex_55
                    refine lv_aload_n hx hb dL_isJob_146 rfl (lv_at hl 2 rfl) ?_
                    refine lv_iconst (v := 3) hx hb dL_isJob_147 (by decide) ?_
                    obtain ⟨hPs, hDs⟩ := seg_call (segs := [[(a_r_, .inl (g 0, n_r_, .inl r_))], [(a_q_10, .inl (g 0, n_11, .inl q_12))], offS ad_54 tp_p_ hd_p_ tf_p_ cf_p_ g o_53]) [[(a_q_10, .inl (g 0, n_11, .inl q_12))], offS ad_54 tp_p_ hd_p_ tf_p_ cf_p_ g o_53] [[(a_r_, .inl (g 0, n_r_, .inl r_))]] 3 [1, 2, 0] rfl rfl (by decide) hP hD
                    have hPc : va_P (dC, dI) vwCl [(a_r_, .inl (g 0, n_r_, .inl r_))] H := P_r hPs
                    have hDc : va_D A [(a_r_, .inl (g 0, n_r_, .inl r_))] := D_r hDs
                    have hFc : ∀ q, va_A [(a_r_, .inl (g 0, n_r_, .inl r_))] H.size q → A q := A_all hDc hA hS.1
                    refine va_calli (va_runS (As := [.ref a_r_, .int 3]) (rest := [.int x_55, .ref t_p_]) ⟨hx, hb, hml, hown, hts⟩ (c_L_draw l hlf dC dI g (a_r_ := a_r_) (n_r_ := n_r_) (r_ := r_) (many := 3) (hw := hw) (sz := H.size)) (va_cwS 2 hts (gqS aw_2_215 aw_2_216 aw_1_0 aw_2_217) rfl rfl rfl (by decide +kernel) ⟨Nat.le_of_ble_eq_true rfl, Nat.le_of_ble_eq_true rfl⟩) ⟨PG_blind, PG_call hK hG hS hPc hDc hFc⟩ rfl rfl hl.1 rfl (lv_room (Nat.le_of_ble_eq_true rfl)) dL_isJob_148 ⟨by rw [hrc]; omega, by rw [hrs]; omega⟩) hS (fun q _ h => hFc q h) hFc (fun r_56 u_56 t_56 H_56 L_56 ht_56 hvm_56 hw_56 hB_56 hz_56 hk_56 hS => ?_)
                    obtain ⟨r__57, u_56⟩ := u_56
                    have hw := hw_56
                    rw [ht_56] at hB_56
                    obtain ⟨hP1, hD1⟩ := hB_56
                    obtain ⟨hP, hD⟩ := join_r hPs hDs hk_56 hFc hP1 hD1
                    obtain ⟨hP, hD⟩ := seg_join [[(a_q_10, .inl (g 0, n_11, .inl q_12))], offS ad_54 tp_p_ hd_p_ tf_p_ cf_p_ g o_53] [[(a_r_, .inl (g 0, n_r_, .inl r__57))]] [[(a_r_, .inl (g 0, n_r_, .inl r__57))], [(a_q_10, .inl (g 0, n_11, .inl q_12))], offS ad_54 tp_p_ hd_p_ tf_p_ cf_p_ g o_53] 3 [2, 0, 1] rfl rfl (by decide) hP hD
                    have hP : va_P (dC, dI) vwCl ([(a_r_, .inl (g 0, n_r_, .inl r__57)), (a_q_10, .inl (g 0, n_11, .inl q_12))] ++ (offS ad_54 tp_p_ hd_p_ tf_p_ cf_p_ g o_53)) H_56 := hP
                    have hD : va_D A ([(a_r_, .inl (g 0, n_r_, .inl r__57)), (a_q_10, .inl (g 0, n_11, .inl q_12))] ++ (offS ad_54 tp_p_ hd_p_ tf_p_ cf_p_ g o_53)) := hD
                    refine W.widen (k := 3753) (n := 22906) (by omega) (by omega) ?_
                    refine lv_iconst (v := 1) hx hb dL_isJob_151 (by decide) ?_
                    refine lv_aload_n hx hb dL_isJob_152 rfl (lv_at hl 2 rfl) ?_
                    refine lv_bipush (v := 50) hx hb dL_isJob_153 (by decide) ?_
                    obtain ⟨hPs, hDs⟩ := seg_call (segs := [[(a_r_, .inl (g 0, n_r_, .inl r__57))], [(a_q_10, .inl (g 0, n_11, .inl q_12))], offS ad_54 tp_p_ hd_p_ tf_p_ cf_p_ g o_53]) [[(a_q_10, .inl (g 0, n_11, .inl q_12))], offS ad_54 tp_p_ hd_p_ tf_p_ cf_p_ g o_53] [[(a_r_, .inl (g 0, n_r_, .inl r__57))]] 3 [1, 2, 0] rfl rfl (by decide) hP hD
                    have hPc : va_P (dC, dI) vwCl [(a_r_, .inl (g 0, n_r_, .inl r__57))] H_56 := P_r hPs
                    have hDc : va_D A [(a_r_, .inl (g 0, n_r_, .inl r__57))] := D_r hDs
                    have hFc : ∀ q, va_A [(a_r_, .inl (g 0, n_r_, .inl r__57))] H_56.size q → A q := A_all hDc hA hS.1
                    refine va_calli (va_runS (As := [.ref a_r_, .int 50]) (rest := [.int 1, .int r_56, .int x_55, .ref t_p_]) ⟨hx, hb, hml, hown, hts⟩ (c_L_draw l hlf dC dI g (a_r_ := a_r_) (n_r_ := n_r_) (r_ := r__57) (many := 50) (hw := hw) (sz := H_56.size)) (va_cwS 2 hts (gqS aw_2_215 aw_2_216 aw_1_0 aw_2_217) rfl rfl rfl (by decide +kernel) ⟨Nat.le_of_ble_eq_true rfl, Nat.le_of_ble_eq_true rfl⟩) ⟨PG_blind, PG_call hK hG hS hPc hDc hFc⟩ rfl rfl hl.1 rfl (lv_room (Nat.le_of_ble_eq_true rfl)) dL_isJob_155 ⟨by rw [hrc]; omega, by rw [hrs]; omega⟩) hS (fun q _ h => hFc q h) hFc (fun r_58 u_58 t_58 H_58 L_58 ht_58 hvm_58 hw_58 hB_58 hz_58 hk_58 hS => ?_)
                    obtain ⟨r__59, u_58⟩ := u_58
                    have hw := hw_58
                    rw [ht_58] at hB_58
                    obtain ⟨hP1, hD1⟩ := hB_58
                    obtain ⟨hP, hD⟩ := join_r hPs hDs hk_58 hFc hP1 hD1
                    obtain ⟨hP, hD⟩ := seg_join [[(a_q_10, .inl (g 0, n_11, .inl q_12))], offS ad_54 tp_p_ hd_p_ tf_p_ cf_p_ g o_53] [[(a_r_, .inl (g 0, n_r_, .inl r__59))]] [[(a_r_, .inl (g 0, n_r_, .inl r__59))], [(a_q_10, .inl (g 0, n_11, .inl q_12))], offS ad_54 tp_p_ hd_p_ tf_p_ cf_p_ g o_53] 3 [2, 0, 1] rfl rfl (by decide) hP hD
                    have hP : va_P (dC, dI) vwCl ([(a_r_, .inl (g 0, n_r_, .inl r__59)), (a_q_10, .inl (g 0, n_11, .inl q_12))] ++ (offS ad_54 tp_p_ hd_p_ tf_p_ cf_p_ g o_53)) H_58 := hP
                    have hD : va_D A ([(a_r_, .inl (g 0, n_r_, .inl r__59)), (a_q_10, .inl (g 0, n_11, .inl q_12))] ++ (offS ad_54 tp_p_ hd_p_ tf_p_ cf_p_ g o_53)) := hD
                    refine W.widen (k := 3753) (n := 22906) (by omega) (by omega) ?_
                    refine lv_iadd hx hb dL_isJob_158 ?_
                    refine lv_topi (fun x_60 ex_60 => ?_)
                    have hw := hw x_60 ex_60
                    obtain ⟨hPs, hDs⟩ := seg_call (segs := [[(a_r_, .inl (g 0, n_r_, .inl r__59))], [(a_q_10, .inl (g 0, n_11, .inl q_12))], offS ad_54 tp_p_ hd_p_ tf_p_ cf_p_ g o_53]) [[(a_r_, .inl (g 0, n_r_, .inl r__59))], [(a_q_10, .inl (g 0, n_11, .inl q_12))]] [offS ad_54 tp_p_ hd_p_ tf_p_ cf_p_ g o_53] 3 [0, 1, 2] rfl rfl (by decide) hP hD
                    have hPc : va_P (dC, dI) vwCl (offS ad_54 tp_p_ hd_p_ tf_p_ cf_p_ g o_53) H_58 := P_r hPs
                    have hDc : va_D A (offS ad_54 tp_p_ hd_p_ tf_p_ cf_p_ g o_53) := D_r hDs
                    have hFc : ∀ q, va_A (offS ad_54 tp_p_ hd_p_ tf_p_ cf_p_ g o_53) H_58.size q → A q := A_all hDc hA hS.1
                    refine vx_calli (vx_runV (As := [.int x_55, .int r_56, .int x_60]) (rest := []) ⟨hx, hb, hml, hown, hts⟩ (p_setRuns l hlf dC dI g tp_p_ hd_p_ tf_p_ cf_p_ htf_p_ hcf_p_ ad_54 t_p_ had_54 o_53 x_55 r_56 x_60 (hw := hw) (sz := H_58.size)) (cwV 3 hts (gqV aw_3_154 aw_3_155 aw_3_156 aw_1_1 aw_3_157) rfl rfl rfl (by decide +kernel) ⟨Nat.le_of_ble_eq_true rfl, Nat.le_of_ble_eq_true rfl⟩) ⟨PG_blind, off_recv had_54 hK hPc, PG_call hK hG hS hPc hDc hFc⟩ rfl rfl hl.1 rfl (lv_room (Nat.le_of_ble_eq_true rfl)) dL_isJob_159 ⟨by rw [hrc]; omega, by rw [hrs]; omega⟩) hS (fun q _ h => hFc q h) hFc (fun q _ h => hFc q h) (fun E ce q9 ux t H1 locs1 ht hvm hp9 hB9 hz hk hS9 hce hcv hcl => ?_) (fun r_61 u_61 t_61 H_61 L_61 ht_61 hvm_61 hw_61 hB_61 hz_61 hk_61 hS => ?_)
                    · exact (hB9.1.1).elim
                    obtain ⟨ad_62, o_63⟩ := u_61
                    obtain ⟨hw, had_62⟩ := hw_61
                    rw [ht_61] at hB_61
                    obtain ⟨hP1, hD1⟩ := hB_61
                    obtain ⟨hP, hD⟩ := join_r hPs hDs hk_61 hFc hP1 hD1
                    obtain ⟨hP, hD⟩ := seg_join [[(a_r_, .inl (g 0, n_r_, .inl r__59))], [(a_q_10, .inl (g 0, n_11, .inl q_12))]] [offS ad_62 tp_p_ hd_p_ tf_p_ cf_p_ g o_63] [[(a_r_, .inl (g 0, n_r_, .inl r__59))], [(a_q_10, .inl (g 0, n_11, .inl q_12))], offS ad_62 tp_p_ hd_p_ tf_p_ cf_p_ g o_63] 3 [0, 1, 2] rfl rfl (by decide) hP hD
                    have hP : va_P (dC, dI) vwCl ([(a_r_, .inl (g 0, n_r_, .inl r__59)), (a_q_10, .inl (g 0, n_11, .inl q_12))] ++ (offS ad_62 tp_p_ hd_p_ tf_p_ cf_p_ g o_63)) H_61 := hP
                    have hD : va_D A ([(a_r_, .inl (g 0, n_r_, .inl r__59)), (a_q_10, .inl (g 0, n_11, .inl q_12))] ++ (offS ad_62 tp_p_ hd_p_ tf_p_ cf_p_ g o_63)) := hD
                    refine W.widen (k := 3756) (n := 22924) (by omega) (by omega) ?_
                    refine lv_istore (lv' := [(10, .int r_61), (0, .ref t_p_), (1, .ref a_r_), (3, .int to_), (4, .int order), (5, .ref a_q_10), (7, .int r_16), (8, .int x_22), (9, .int r_23)]) hx hb dL_isJob_162 hl (by decide) rfl (fun ls hl => ?_)
                    refine lv_aload_n hx hb dL_isJob_164 rfl (lv_at hl 1 rfl) ?_
                    refine lv_aload_n hx hb dL_isJob_165 rfl (lv_at hl 2 rfl) ?_
                    refine lv_iconst (v := 3) hx hb dL_isJob_166 (by decide) ?_
                    obtain ⟨hPs, hDs⟩ := seg_call (segs := [[(a_r_, .inl (g 0, n_r_, .inl r__59))], [(a_q_10, .inl (g 0, n_11, .inl q_12))], offS ad_62 tp_p_ hd_p_ tf_p_ cf_p_ g o_63]) [[(a_q_10, .inl (g 0, n_11, .inl q_12))], offS ad_62 tp_p_ hd_p_ tf_p_ cf_p_ g o_63] [[(a_r_, .inl (g 0, n_r_, .inl r__59))]] 3 [1, 2, 0] rfl rfl (by decide) hP hD
                    have hPc : va_P (dC, dI) vwCl [(a_r_, .inl (g 0, n_r_, .inl r__59))] H_61 := P_r hPs
                    have hDc : va_D A [(a_r_, .inl (g 0, n_r_, .inl r__59))] := D_r hDs
                    have hFc : ∀ q, va_A [(a_r_, .inl (g 0, n_r_, .inl r__59))] H_61.size q → A q := A_all hDc hA hS.1
                    refine va_calli (va_runS (As := [.ref a_r_, .int 3]) (rest := [.ref t_p_]) ⟨hx, hb, hml, hown, hts⟩ (c_L_draw l hlf dC dI g (a_r_ := a_r_) (n_r_ := n_r_) (r_ := r__59) (many := 3) (hw := hw) (sz := H_61.size)) (va_cwS 2 hts (gqS aw_2_215 aw_2_216 aw_1_0 aw_2_217) rfl rfl rfl (by decide +kernel) ⟨Nat.le_of_ble_eq_true rfl, Nat.le_of_ble_eq_true rfl⟩) ⟨PG_blind, PG_call hK hG hS hPc hDc hFc⟩ rfl rfl hl.1 rfl (lv_room (Nat.le_of_ble_eq_true rfl)) dL_isJob_167 ⟨by rw [hrc]; omega, by rw [hrs]; omega⟩) hS (fun q _ h => hFc q h) hFc (fun r_64 u_64 t_64 H_64 L_64 ht_64 hvm_64 hw_64 hB_64 hz_64 hk_64 hS => ?_)
                    obtain ⟨r__65, u_64⟩ := u_64
                    have hw := hw_64
                    rw [ht_64] at hB_64
                    obtain ⟨hP1, hD1⟩ := hB_64
                    obtain ⟨hP, hD⟩ := join_r hPs hDs hk_64 hFc hP1 hD1
                    obtain ⟨hP, hD⟩ := seg_join [[(a_q_10, .inl (g 0, n_11, .inl q_12))], offS ad_62 tp_p_ hd_p_ tf_p_ cf_p_ g o_63] [[(a_r_, .inl (g 0, n_r_, .inl r__65))]] [[(a_r_, .inl (g 0, n_r_, .inl r__65))], [(a_q_10, .inl (g 0, n_11, .inl q_12))], offS ad_62 tp_p_ hd_p_ tf_p_ cf_p_ g o_63] 3 [2, 0, 1] rfl rfl (by decide) hP hD
                    have hP : va_P (dC, dI) vwCl ([(a_r_, .inl (g 0, n_r_, .inl r__65)), (a_q_10, .inl (g 0, n_11, .inl q_12))] ++ (offS ad_62 tp_p_ hd_p_ tf_p_ cf_p_ g o_63)) H_64 := hP
                    have hD : va_D A ([(a_r_, .inl (g 0, n_r_, .inl r__65)), (a_q_10, .inl (g 0, n_11, .inl q_12))] ++ (offS ad_62 tp_p_ hd_p_ tf_p_ cf_p_ g o_63)) := hD
                    refine W.widen (k := 3756) (n := 22924) (by omega) (by omega) ?_
                    refine lv_iconst (v := 2) hx hb dL_isJob_170 (by decide) ?_
                    refine lv_aload_n hx hb dL_isJob_171 rfl (lv_at hl 2 rfl) ?_
                    refine lv_iconst (v := 5) hx hb dL_isJob_172 (by decide) ?_
                    obtain ⟨hPs, hDs⟩ := seg_call (segs := [[(a_r_, .inl (g 0, n_r_, .inl r__65))], [(a_q_10, .inl (g 0, n_11, .inl q_12))], offS ad_62 tp_p_ hd_p_ tf_p_ cf_p_ g o_63]) [[(a_q_10, .inl (g 0, n_11, .inl q_12))], offS ad_62 tp_p_ hd_p_ tf_p_ cf_p_ g o_63] [[(a_r_, .inl (g 0, n_r_, .inl r__65))]] 3 [1, 2, 0] rfl rfl (by decide) hP hD
                    have hPc : va_P (dC, dI) vwCl [(a_r_, .inl (g 0, n_r_, .inl r__65))] H_64 := P_r hPs
                    have hDc : va_D A [(a_r_, .inl (g 0, n_r_, .inl r__65))] := D_r hDs
                    have hFc : ∀ q, va_A [(a_r_, .inl (g 0, n_r_, .inl r__65))] H_64.size q → A q := A_all hDc hA hS.1
                    refine va_calli (va_runS (As := [.ref a_r_, .int 5]) (rest := [.int 2, .int r_64, .ref t_p_]) ⟨hx, hb, hml, hown, hts⟩ (c_L_draw l hlf dC dI g (a_r_ := a_r_) (n_r_ := n_r_) (r_ := r__65) (many := 5) (hw := hw) (sz := H_64.size)) (va_cwS 2 hts (gqS aw_2_215 aw_2_216 aw_1_0 aw_2_217) rfl rfl rfl (by decide +kernel) ⟨Nat.le_of_ble_eq_true rfl, Nat.le_of_ble_eq_true rfl⟩) ⟨PG_blind, PG_call hK hG hS hPc hDc hFc⟩ rfl rfl hl.1 rfl (lv_room (Nat.le_of_ble_eq_true rfl)) dL_isJob_173 ⟨by rw [hrc]; omega, by rw [hrs]; omega⟩) hS (fun q _ h => hFc q h) hFc (fun r_66 u_66 t_66 H_66 L_66 ht_66 hvm_66 hw_66 hB_66 hz_66 hk_66 hS => ?_)
                    obtain ⟨r__67, u_66⟩ := u_66
                    have hw := hw_66
                    rw [ht_66] at hB_66
                    obtain ⟨hP1, hD1⟩ := hB_66
                    obtain ⟨hP, hD⟩ := join_r hPs hDs hk_66 hFc hP1 hD1
                    obtain ⟨hP, hD⟩ := seg_join [[(a_q_10, .inl (g 0, n_11, .inl q_12))], offS ad_62 tp_p_ hd_p_ tf_p_ cf_p_ g o_63] [[(a_r_, .inl (g 0, n_r_, .inl r__67))]] [[(a_r_, .inl (g 0, n_r_, .inl r__67))], [(a_q_10, .inl (g 0, n_11, .inl q_12))], offS ad_62 tp_p_ hd_p_ tf_p_ cf_p_ g o_63] 3 [2, 0, 1] rfl rfl (by decide) hP hD
                    have hP : va_P (dC, dI) vwCl ([(a_r_, .inl (g 0, n_r_, .inl r__67)), (a_q_10, .inl (g 0, n_11, .inl q_12))] ++ (offS ad_62 tp_p_ hd_p_ tf_p_ cf_p_ g o_63)) H_66 := hP
                    have hD : va_D A ([(a_r_, .inl (g 0, n_r_, .inl r__67)), (a_q_10, .inl (g 0, n_11, .inl q_12))] ++ (offS ad_62 tp_p_ hd_p_ tf_p_ cf_p_ g o_63)) := hD
                    refine W.widen (k := 3756) (n := 22924) (by omega) (by omega) ?_
                    refine lv_iadd hx hb dL_isJob_176 ?_
                    refine lv_topi (fun x_68 ex_68 => ?_)
                    have hw := hw x_68 ex_68
                    obtain ⟨hPs, hDs⟩ := seg_call (segs := [[(a_r_, .inl (g 0, n_r_, .inl r__67))], [(a_q_10, .inl (g 0, n_11, .inl q_12))], offS ad_62 tp_p_ hd_p_ tf_p_ cf_p_ g o_63]) [[(a_r_, .inl (g 0, n_r_, .inl r__67))], [(a_q_10, .inl (g 0, n_11, .inl q_12))]] [offS ad_62 tp_p_ hd_p_ tf_p_ cf_p_ g o_63] 3 [0, 1, 2] rfl rfl (by decide) hP hD
                    have hPc : va_P (dC, dI) vwCl (offS ad_62 tp_p_ hd_p_ tf_p_ cf_p_ g o_63) H_66 := P_r hPs
                    have hDc : va_D A (offS ad_62 tp_p_ hd_p_ tf_p_ cf_p_ g o_63) := D_r hDs
                    have hFc : ∀ q, va_A (offS ad_62 tp_p_ hd_p_ tf_p_ cf_p_ g o_63) H_66.size q → A q := A_all hDc hA hS.1
                    refine vx_calli (vx_runV (As := [.int r_64, .int x_68]) (rest := []) ⟨hx, hb, hml, hown, hts⟩ (p_setMerge l hlf dC dI g tp_p_ hd_p_ tf_p_ cf_p_ htf_p_ hcf_p_ ad_62 t_p_ had_62 o_63 r_64 x_68 (hw := hw) (sz := H_66.size)) (cwV 2 hts (gqV aw_4_52 aw_4_53 aw_4_54 aw_1_1 aw_4_55) rfl rfl rfl (by decide +kernel) ⟨Nat.le_of_ble_eq_true rfl, Nat.le_of_ble_eq_true rfl⟩) ⟨PG_blind, off_recv had_62 hK hPc, PG_call hK hG hS hPc hDc hFc⟩ rfl rfl hl.1 rfl (lv_room (Nat.le_of_ble_eq_true rfl)) dL_isJob_177 ⟨by rw [hrc]; omega, by rw [hrs]; omega⟩) hS (fun q _ h => hFc q h) hFc (fun q _ h => hFc q h) (fun E ce q9 ux t H1 locs1 ht hvm hp9 hB9 hz hk hS9 hce hcv hcl => ?_) (fun r_69 u_69 t_69 H_69 L_69 ht_69 hvm_69 hw_69 hB_69 hz_69 hk_69 hS => ?_)
                    · exact (hB9.1.1).elim
                    obtain ⟨ad_70, o_71⟩ := u_69
                    obtain ⟨hw, had_70⟩ := hw_69
                    rw [ht_69] at hB_69
                    obtain ⟨hP1, hD1⟩ := hB_69
                    obtain ⟨hP, hD⟩ := join_r hPs hDs hk_69 hFc hP1 hD1
                    obtain ⟨hP, hD⟩ := seg_join [[(a_r_, .inl (g 0, n_r_, .inl r__67))], [(a_q_10, .inl (g 0, n_11, .inl q_12))]] [offS ad_70 tp_p_ hd_p_ tf_p_ cf_p_ g o_71] [[(a_r_, .inl (g 0, n_r_, .inl r__67))], [(a_q_10, .inl (g 0, n_11, .inl q_12))], offS ad_70 tp_p_ hd_p_ tf_p_ cf_p_ g o_71] 3 [0, 1, 2] rfl rfl (by decide) hP hD
                    have hP : va_P (dC, dI) vwCl ([(a_r_, .inl (g 0, n_r_, .inl r__67)), (a_q_10, .inl (g 0, n_11, .inl q_12))] ++ (offS ad_70 tp_p_ hd_p_ tf_p_ cf_p_ g o_71)) H_69 := hP
                    have hD : va_D A ([(a_r_, .inl (g 0, n_r_, .inl r__67)), (a_q_10, .inl (g 0, n_11, .inl q_12))] ++ (offS ad_70 tp_p_ hd_p_ tf_p_ cf_p_ g o_71)) := hD
                    refine W.widen (k := 3758) (n := 22936) (by omega) (by omega) ?_
                    refine lv_istore (lv' := [(10, .int r_69), (0, .ref t_p_), (1, .ref a_r_), (3, .int to_), (4, .int order), (5, .ref a_q_10), (7, .int r_16), (8, .int x_22), (9, .int r_23)]) hx hb dL_isJob_180 hl (by decide) rfl (fun ls hl => ?_)
                    refine lv_iconst (v := 0) hx hb dL_isJob_182 (by decide) ?_
                    refine lv_istore (lv' := [(11, .int 0), (10, .int r_69), (0, .ref t_p_), (1, .ref a_r_), (3, .int to_), (4, .int order), (5, .ref a_q_10), (7, .int r_16), (8, .int x_22), (9, .int r_23)]) hx hb dL_isJob_183 hl (by decide) rfl (fun ls hl => ?_)
                    refine lv_iconst (v := 0) hx hb dL_isJob_185 (by decide) ?_
                    refine lv_istore (lv' := [(12, .int 0), (11, .int 0), (10, .int r_69), (0, .ref t_p_), (1, .ref a_r_), (3, .int to_), (4, .int order), (5, .ref a_q_10), (7, .int r_16), (8, .int x_22), (9, .int r_23)]) hx hb dL_isJob_186 hl (by decide) rfl (fun ls hl => ?_)
                    refine lv_iconst (v := 0) hx hb dL_isJob_188 (by decide) ?_
                    refine lv_istore (lv' := [(13, .int 0), (12, .int 0), (11, .int 0), (10, .int r_69), (0, .ref t_p_), (1, .ref a_r_), (3, .int to_), (4, .int order), (5, .ref a_q_10), (7, .int r_16), (8, .int x_22), (9, .int r_23)]) hx hb dL_isJob_189 hl (by decide) rfl (fun ls hl => ?_)
                    refine lv_iconst (v := 0) hx hb dL_isJob_191 (by decide) ?_
                    refine lv_istore (lv' := [(14, .int 0), (13, .int 0), (12, .int 0), (11, .int 0), (10, .int r_69), (0, .ref t_p_), (1, .ref a_r_), (3, .int to_), (4, .int order), (5, .ref a_q_10), (7, .int r_16), (8, .int x_22), (9, .int r_23)]) hx hb dL_isJob_192 hl (by decide) rfl (fun ls hl => ?_)
                    have EX194_287 : ∀ (o_79 : OS) (r__80 : Nat → Int32) (ad_81 : Nat → Nat) (had_81 : ad_81 0 = t_p_) (H : Heap) (locs : List Loc), (wx_L_isJob_194_287 Q) o_79 r__80 → va_P (dC, dI) vwCl ([(a_r_, .inl (g 0, n_r_, .inl r__80))] ++ (offS ad_81 tp_p_ hd_p_ tf_p_ cf_p_ g o_79)) H → va_D A ([(a_r_, .inl (g 0, n_r_, .inl r__80))] ++ (offS ad_81 tp_p_ hd_p_ tf_p_ cf_p_ g o_79)) → va_S A s.heap H locs → ∀ (ls : Array Slot), lv_has ls 18 [] → W p l e (headSpec wqL_isJob ({ frames := 10, cells := 11599, slots := 70176, locals := 174 })).room s m ([.ref t_p_, .ref a_r_, .int tape, .int to_, .int order] : List Value).toArray below meth c H locs 11377 68650 QM (F0 m 287 ls []) := by
                      intro o_79 r__80 ad_81 had_81 H locs hw hP hD hS ls hl
                      refine lv_iconst (v := 0) hx hb dL_isJob_287 (by decide) ?_
                      refine W.widen (k := 11599) (n := 70176) (by omega) (by omega) ?_
                      subst hQM
                      exact W.zret (v := 0) hx hb hr rfl (fun t ht hW => ⟨⟨_, (r__80, ad_81, o_79, ()), rfl, ⟨false, rfl, ⟨hw, had_81⟩⟩, ⟨P_at ht hP, hD⟩⟩, hS.F ht⟩) hS.2.2 dL_isJob_288
                    have EX194_367 : ∀ (o_82 : OS) (r__83 : Nat → Int32) (ad_84 : Nat → Nat) (had_84 : ad_84 0 = t_p_) (H : Heap) (locs : List Loc), (wx_L_isJob_194_367 Q) o_82 r__83 → va_P (dC, dI) vwCl ([(a_r_, .inl (g 0, n_r_, .inl r__83))] ++ (offS ad_84 tp_p_ hd_p_ tf_p_ cf_p_ g o_82)) H → va_D A ([(a_r_, .inl (g 0, n_r_, .inl r__83))] ++ (offS ad_84 tp_p_ hd_p_ tf_p_ cf_p_ g o_82)) → va_S A s.heap H locs → ∀ (ls : Array Slot), lv_has ls 18 [] → W p l e (headSpec wqL_isJob ({ frames := 10, cells := 11599, slots := 70176, locals := 174 })).room s m ([.ref t_p_, .ref a_r_, .int tape, .int to_, .int order] : List Value).toArray below meth c H locs 11377 68650 QM (F0 m 367 ls []) := by
                      intro o_82 r__83 ad_84 had_84 H locs hw hP hD hS ls hl
                      refine lv_iconst (v := 0) hx hb dL_isJob_367 (by decide) ?_
                      refine W.widen (k := 11599) (n := 70176) (by omega) (by omega) ?_
                      subst hQM
                      exact W.zret (v := 0) hx hb hr rfl (fun t ht hW => ⟨⟨_, (r__83, ad_84, o_82, ()), rfl, ⟨false, rfl, ⟨hw, had_84⟩⟩, ⟨P_at ht hP, hD⟩⟩, hS.F ht⟩) hS.2.2 dL_isJob_368
                    have EX194_400 : ∀ (o_85 : OS) (r__86 : Nat → Int32) (ad_87 : Nat → Nat) (had_87 : ad_87 0 = t_p_) (H : Heap) (locs : List Loc), (wx_L_isJob_194_400 Q) o_85 r__86 → va_P (dC, dI) vwCl ([(a_r_, .inl (g 0, n_r_, .inl r__86))] ++ (offS ad_87 tp_p_ hd_p_ tf_p_ cf_p_ g o_85)) H → va_D A ([(a_r_, .inl (g 0, n_r_, .inl r__86))] ++ (offS ad_87 tp_p_ hd_p_ tf_p_ cf_p_ g o_85)) → va_S A s.heap H locs → ∀ (ls : Array Slot), lv_has ls 18 [] → W p l e (headSpec wqL_isJob ({ frames := 10, cells := 11599, slots := 70176, locals := 174 })).room s m ([.ref t_p_, .ref a_r_, .int tape, .int to_, .int order] : List Value).toArray below meth c H locs 11377 68650 QM (F0 m 400 ls []) := by
                      intro o_85 r__86 ad_87 had_87 H locs hw hP hD hS ls hl
                      refine lv_iconst (v := 0) hx hb dL_isJob_400 (by decide) ?_
                      refine W.widen (k := 11599) (n := 70176) (by omega) (by omega) ?_
                      subst hQM
                      exact W.zret (v := 0) hx hb hr rfl (fun t ht hW => ⟨⟨_, (r__86, ad_87, o_85, ()), rfl, ⟨false, rfl, ⟨hw, had_87⟩⟩, ⟨P_at ht hP, hD⟩⟩, hS.F ht⟩) hS.2.2 dL_isJob_401
                    have EX194_408 : ∀ (o_88 : OS) (r__89 : Nat → Int32) (v11_90 : Int32) (v13_91 : Int32) (v12_92 : Int32) (ad_93 : Nat → Nat) (had_93 : ad_93 0 = t_p_) (H : Heap) (locs : List Loc), (wx_L_isJob_194_408 to_ order Q n_11 q_12 r_16 x_22 r_23) o_88 r__89 v11_90 v13_91 v12_92 → va_P (dC, dI) vwCl ([(a_r_, .inl (g 0, n_r_, .inl r__89)), (a_q_10, .inl (g 0, n_11, .inl q_12))] ++ (offS ad_93 tp_p_ hd_p_ tf_p_ cf_p_ g o_88)) H → va_D A ([(a_r_, .inl (g 0, n_r_, .inl r__89)), (a_q_10, .inl (g 0, n_11, .inl q_12))] ++ (offS ad_93 tp_p_ hd_p_ tf_p_ cf_p_ g o_88)) → va_S A s.heap H locs → ∀ (ls : Array Slot), lv_has ls 18 [(0, .ref t_p_), (3, .int to_), (4, .int order), (5, .ref a_q_10), (7, .int r_16), (8, .int x_22), (9, .int r_23), (11, .int v11_90), (12, .int v12_92), (13, .int v13_91)] → W p l e (headSpec wqL_isJob ({ frames := 10, cells := 11599, slots := 70176, locals := 174 })).room s m ([.ref t_p_, .ref a_r_, .int tape, .int to_, .int order] : List Value).toArray below meth c H locs 11377 68650 QM (F0 m 408 ls []) := by
                      intro o_88 r__89 v11_90 v13_91 v12_92 ad_93 had_93 H locs hw hP hD hS ls hl
                      refine lv_aload_n hx hb dL_isJob_408 rfl (lv_at hl 0 rfl) ?_
                      refine lv_iconst (v := 1) hx hb dL_isJob_409 (by decide) ?_
                      obtain ⟨hPs, hDs⟩ := seg_call (segs := [[(a_r_, .inl (g 0, n_r_, .inl r__89))], [(a_q_10, .inl (g 0, n_11, .inl q_12))], offS ad_93 tp_p_ hd_p_ tf_p_ cf_p_ g o_88]) [[(a_r_, .inl (g 0, n_r_, .inl r__89))], [(a_q_10, .inl (g 0, n_11, .inl q_12))]] [offS ad_93 tp_p_ hd_p_ tf_p_ cf_p_ g o_88] 3 [0, 1, 2] rfl rfl (by decide) hP hD
                      have hPc : va_P (dC, dI) vwCl (offS ad_93 tp_p_ hd_p_ tf_p_ cf_p_ g o_88) H := P_r hPs
                      have hDc : va_D A (offS ad_93 tp_p_ hd_p_ tf_p_ cf_p_ g o_88) := D_r hDs
                      have hFc : ∀ q, va_A (offS ad_93 tp_p_ hd_p_ tf_p_ cf_p_ g o_88) H.size q → A q := A_all hDc hA hS.1
                      refine vx_calli (vx_runV (As := [.int 1]) (rest := []) ⟨hx, hb, hml, hown, hts⟩ (p_job l hlf dC dI g tp_p_ hd_p_ tf_p_ cf_p_ htf_p_ hcf_p_ ad_93 t_p_ had_93 o_88 1 (hw := hw) (sz := H.size)) (cwV 1 hts (gqV aw_4_199 aw_4_200 aw_4_201 aw_1_1 aw_4_202) rfl rfl rfl (by decide +kernel) ⟨Nat.le_of_ble_eq_true rfl, Nat.le_of_ble_eq_true rfl⟩) ⟨PG_blind, off_recv had_93 hK hPc, PG_call hK hG hS hPc hDc hFc⟩ rfl rfl hl.1 rfl (lv_room (Nat.le_of_ble_eq_true rfl)) dL_isJob_410 ⟨by rw [hrc]; omega, by rw [hrs]; omega⟩) hS (fun q _ h => hFc q h) hFc (fun q _ h => hFc q h) (fun E ce q9 ux t H1 locs1 ht hvm hp9 hB9 hz hk hS9 hce hcv hcl => ?_) (fun r_94 u_94 t_94 H_94 L_94 ht_94 hvm_94 hw_94 hB_94 hz_94 hk_94 hS => ?_)
                      · exact (hB9.1.1).elim
                      obtain ⟨ad_95, o_96⟩ := u_94
                      obtain ⟨hw, had_95⟩ := hw_94
                      rw [ht_94] at hB_94
                      obtain ⟨hP1, hD1⟩ := hB_94
                      obtain ⟨hP, hD⟩ := join_r hPs hDs hk_94 hFc hP1 hD1
                      obtain ⟨hP, hD⟩ := seg_join [[(a_r_, .inl (g 0, n_r_, .inl r__89))], [(a_q_10, .inl (g 0, n_11, .inl q_12))]] [offS ad_95 tp_p_ hd_p_ tf_p_ cf_p_ g o_96] [[(a_r_, .inl (g 0, n_r_, .inl r__89))], [(a_q_10, .inl (g 0, n_11, .inl q_12))], offS ad_95 tp_p_ hd_p_ tf_p_ cf_p_ g o_96] 3 [0, 1, 2] rfl rfl (by decide) hP hD
                      have hP : va_P (dC, dI) vwCl ([(a_r_, .inl (g 0, n_r_, .inl r__89)), (a_q_10, .inl (g 0, n_11, .inl q_12))] ++ (offS ad_95 tp_p_ hd_p_ tf_p_ cf_p_ g o_96)) H_94 := hP
                      have hD : va_D A ([(a_r_, .inl (g 0, n_r_, .inl r__89)), (a_q_10, .inl (g 0, n_11, .inl q_12))] ++ (offS ad_95 tp_p_ hd_p_ tf_p_ cf_p_ g o_96)) := hD
                      refine W.widen (k := 11379) (n := 68662) (by omega) (by omega) ?_
                      refine lv_iconst (v := 1) hx hb dL_isJob_413 (by decide) ?_
                      refine lv_icmp_ne (tgt := 488) hx hb dL_isJob_414 (by decide) (fun c_97 => ?_) (fun c_97 => ?_)
                      · have hw := hw.2 c_97
                        refine lv_iconst (v := 0) hx hb dL_isJob_488 (by decide) ?_
                        refine W.widen (k := 11599) (n := 70176) (by omega) (by omega) ?_
                        subst hQM
                        obtain ⟨hP, hD⟩ := seg_sub (segs := [[(a_r_, .inl (g 0, n_r_, .inl r__89))], [(a_q_10, .inl (g 0, n_11, .inl q_12))], offS ad_95 tp_p_ hd_p_ tf_p_ cf_p_ g o_96]) [[(a_r_, .inl (g 0, n_r_, .inl r__89))], offS ad_95 tp_p_ hd_p_ tf_p_ cf_p_ g o_96] [[(a_q_10, .inl (g 0, n_11, .inl q_12))]] 3 [0, 2, 1] rfl rfl (by decide) hP hD
                        exact W.zret (v := 0) hx hb hr rfl (fun t ht hW => ⟨⟨_, (r__89, ad_95, o_96, ()), rfl, ⟨false, rfl, ⟨hw, had_95⟩⟩, ⟨P_at ht hP, hD⟩⟩, hS.F ht⟩) hS.2.2 dL_isJob_489
                      · have hw := hw.1 c_97
                        refine lv_aload_n hx hb dL_isJob_417 rfl (lv_at hl 0 rfl) ?_
                        refine lv_iconst (v := 2) hx hb dL_isJob_418 (by decide) ?_
                        obtain ⟨hPs, hDs⟩ := seg_call (segs := [[(a_r_, .inl (g 0, n_r_, .inl r__89))], [(a_q_10, .inl (g 0, n_11, .inl q_12))], offS ad_95 tp_p_ hd_p_ tf_p_ cf_p_ g o_96]) [[(a_r_, .inl (g 0, n_r_, .inl r__89))], [(a_q_10, .inl (g 0, n_11, .inl q_12))]] [offS ad_95 tp_p_ hd_p_ tf_p_ cf_p_ g o_96] 3 [0, 1, 2] rfl rfl (by decide) hP hD
                        have hPc : va_P (dC, dI) vwCl (offS ad_95 tp_p_ hd_p_ tf_p_ cf_p_ g o_96) H_94 := P_r hPs
                        have hDc : va_D A (offS ad_95 tp_p_ hd_p_ tf_p_ cf_p_ g o_96) := D_r hDs
                        have hFc : ∀ q, va_A (offS ad_95 tp_p_ hd_p_ tf_p_ cf_p_ g o_96) H_94.size q → A q := A_all hDc hA hS.1
                        refine vx_calli (vx_runV (As := [.int 2]) (rest := []) ⟨hx, hb, hml, hown, hts⟩ (p_job l hlf dC dI g tp_p_ hd_p_ tf_p_ cf_p_ htf_p_ hcf_p_ ad_95 t_p_ had_95 o_96 2 (hw := hw) (sz := H_94.size)) (cwV 1 hts (gqV aw_4_199 aw_4_200 aw_4_201 aw_1_1 aw_4_202) rfl rfl rfl (by decide +kernel) ⟨Nat.le_of_ble_eq_true rfl, Nat.le_of_ble_eq_true rfl⟩) ⟨PG_blind, off_recv had_95 hK hPc, PG_call hK hG hS hPc hDc hFc⟩ rfl rfl hl.1 rfl (lv_room (Nat.le_of_ble_eq_true rfl)) dL_isJob_419 ⟨by rw [hrc]; omega, by rw [hrs]; omega⟩) hS (fun q _ h => hFc q h) hFc (fun q _ h => hFc q h) (fun E ce q9 ux t H1 locs1 ht hvm hp9 hB9 hz hk hS9 hce hcv hcl => ?_) (fun r_98 u_98 t_98 H_98 L_98 ht_98 hvm_98 hw_98 hB_98 hz_98 hk_98 hS => ?_)
                        · exact (hB9.1.1).elim
                        obtain ⟨ad_99, o_100⟩ := u_98
                        obtain ⟨hw, had_99⟩ := hw_98
                        rw [ht_98] at hB_98
                        obtain ⟨hP1, hD1⟩ := hB_98
                        obtain ⟨hP, hD⟩ := join_r hPs hDs hk_98 hFc hP1 hD1
                        obtain ⟨hP, hD⟩ := seg_join [[(a_r_, .inl (g 0, n_r_, .inl r__89))], [(a_q_10, .inl (g 0, n_11, .inl q_12))]] [offS ad_99 tp_p_ hd_p_ tf_p_ cf_p_ g o_100] [[(a_r_, .inl (g 0, n_r_, .inl r__89))], [(a_q_10, .inl (g 0, n_11, .inl q_12))], offS ad_99 tp_p_ hd_p_ tf_p_ cf_p_ g o_100] 3 [0, 1, 2] rfl rfl (by decide) hP hD
                        have hP : va_P (dC, dI) vwCl ([(a_r_, .inl (g 0, n_r_, .inl r__89)), (a_q_10, .inl (g 0, n_11, .inl q_12))] ++ (offS ad_99 tp_p_ hd_p_ tf_p_ cf_p_ g o_100)) H_98 := hP
                        have hD : va_D A ([(a_r_, .inl (g 0, n_r_, .inl r__89)), (a_q_10, .inl (g 0, n_11, .inl q_12))] ++ (offS ad_99 tp_p_ hd_p_ tf_p_ cf_p_ g o_100)) := hD
                        refine W.widen (k := 11381) (n := 68674) (by omega) (by omega) ?_
                        refine lv_aload hx hb dL_isJob_422 (lv_at hl 3 rfl) ?_
                        refine va_alen hx hb hK hP 1 0 rfl rfl (v := nI n_11) rfl dL_isJob_424 ?_
                        have JN433 : ∀ (sk0_101 : Bool) (H : Heap) (locs : List Loc), (wj_L_isJob_433 to_ order Q n_11 q_12 r_16 x_22 r_23 r__89 v11_90 v13_91 v12_92 o_100 r_98) sk0_101 → va_P (dC, dI) vwCl ([(a_r_, .inl (g 0, n_r_, .inl r__89)), (a_q_10, .inl (g 0, n_11, .inl q_12))] ++ (offS ad_99 tp_p_ hd_p_ tf_p_ cf_p_ g o_100)) H → va_D A ([(a_r_, .inl (g 0, n_r_, .inl r__89)), (a_q_10, .inl (g 0, n_11, .inl q_12))] ++ (offS ad_99 tp_p_ hd_p_ tf_p_ cf_p_ g o_100)) → va_S A s.heap H locs → ∀ (ls : Array Slot), lv_has ls 18 [(0, .ref t_p_), (3, .int to_), (4, .int order), (5, .ref a_q_10), (7, .int r_16), (8, .int x_22), (9, .int r_23), (11, .int v11_90), (12, .int v12_92), (13, .int v13_91)] → W p l e (headSpec wqL_isJob ({ frames := 10, cells := 11599, slots := 70176, locals := 174 })).room s m ([.ref t_p_, .ref a_r_, .int tape, .int to_, .int order] : List Value).toArray below meth c H locs 11381 68674 QM (F0 m 433 ls [.int (b2i sk0_101), .int r_98]) := by
                          intro sk0_101 H locs hw hP hD hS ls hl
                          refine lv_icmp_ne (tgt := 488) hx hb dL_isJob_433 (by decide) (fun c_102 => ?_) (fun c_102 => ?_)
                          · have hw := hw.2 c_102
                            refine lv_iconst (v := 0) hx hb dL_isJob_488 (by decide) ?_
                            refine W.widen (k := 11599) (n := 70176) (by omega) (by omega) ?_
                            subst hQM
                            obtain ⟨hP, hD⟩ := seg_sub (segs := [[(a_r_, .inl (g 0, n_r_, .inl r__89))], [(a_q_10, .inl (g 0, n_11, .inl q_12))], offS ad_99 tp_p_ hd_p_ tf_p_ cf_p_ g o_100]) [[(a_r_, .inl (g 0, n_r_, .inl r__89))], offS ad_99 tp_p_ hd_p_ tf_p_ cf_p_ g o_100] [[(a_q_10, .inl (g 0, n_11, .inl q_12))]] 3 [0, 2, 1] rfl rfl (by decide) hP hD
                            exact W.zret (v := 0) hx hb hr rfl (fun t ht hW => ⟨⟨_, (r__89, ad_99, o_100, ()), rfl, ⟨false, rfl, ⟨hw, had_99⟩⟩, ⟨P_at ht hP, hD⟩⟩, hS.F ht⟩) hS.2.2 dL_isJob_489
                          · have hw := hw.1 c_102
                            refine lv_aload_n hx hb dL_isJob_436 rfl (lv_at hl 0 rfl) ?_
                            refine lv_iconst (v := 3) hx hb dL_isJob_437 (by decide) ?_
                            obtain ⟨hPs, hDs⟩ := seg_call (segs := [[(a_r_, .inl (g 0, n_r_, .inl r__89))], [(a_q_10, .inl (g 0, n_11, .inl q_12))], offS ad_99 tp_p_ hd_p_ tf_p_ cf_p_ g o_100]) [[(a_r_, .inl (g 0, n_r_, .inl r__89))], [(a_q_10, .inl (g 0, n_11, .inl q_12))]] [offS ad_99 tp_p_ hd_p_ tf_p_ cf_p_ g o_100] 3 [0, 1, 2] rfl rfl (by decide) hP hD
                            have hPc : va_P (dC, dI) vwCl (offS ad_99 tp_p_ hd_p_ tf_p_ cf_p_ g o_100) H := P_r hPs
                            have hDc : va_D A (offS ad_99 tp_p_ hd_p_ tf_p_ cf_p_ g o_100) := D_r hDs
                            have hFc : ∀ q, va_A (offS ad_99 tp_p_ hd_p_ tf_p_ cf_p_ g o_100) H.size q → A q := A_all hDc hA hS.1
                            refine vx_calli (vx_runV (As := [.int 3]) (rest := []) ⟨hx, hb, hml, hown, hts⟩ (p_job l hlf dC dI g tp_p_ hd_p_ tf_p_ cf_p_ htf_p_ hcf_p_ ad_99 t_p_ had_99 o_100 3 (hw := hw) (sz := H.size)) (cwV 1 hts (gqV aw_4_199 aw_4_200 aw_4_201 aw_1_1 aw_4_202) rfl rfl rfl (by decide +kernel) ⟨Nat.le_of_ble_eq_true rfl, Nat.le_of_ble_eq_true rfl⟩) ⟨PG_blind, off_recv had_99 hK hPc, PG_call hK hG hS hPc hDc hFc⟩ rfl rfl hl.1 rfl (lv_room (Nat.le_of_ble_eq_true rfl)) dL_isJob_438 ⟨by rw [hrc]; omega, by rw [hrs]; omega⟩) hS (fun q _ h => hFc q h) hFc (fun q _ h => hFc q h) (fun E ce q9 ux t H1 locs1 ht hvm hp9 hB9 hz hk hS9 hce hcv hcl => ?_) (fun r_103 u_103 t_103 H_103 L_103 ht_103 hvm_103 hw_103 hB_103 hz_103 hk_103 hS => ?_)
                            · exact (hB9.1.1).elim
                            obtain ⟨ad_104, o_105⟩ := u_103
                            obtain ⟨hw, had_104⟩ := hw_103
                            rw [ht_103] at hB_103
                            obtain ⟨hP1, hD1⟩ := hB_103
                            obtain ⟨hP, hD⟩ := join_r hPs hDs hk_103 hFc hP1 hD1
                            obtain ⟨hP, hD⟩ := seg_join [[(a_r_, .inl (g 0, n_r_, .inl r__89))], [(a_q_10, .inl (g 0, n_11, .inl q_12))]] [offS ad_104 tp_p_ hd_p_ tf_p_ cf_p_ g o_105] [[(a_r_, .inl (g 0, n_r_, .inl r__89))], [(a_q_10, .inl (g 0, n_11, .inl q_12))], offS ad_104 tp_p_ hd_p_ tf_p_ cf_p_ g o_105] 3 [0, 1, 2] rfl rfl (by decide) hP hD
                            have hP : va_P (dC, dI) vwCl ([(a_r_, .inl (g 0, n_r_, .inl r__89)), (a_q_10, .inl (g 0, n_11, .inl q_12))] ++ (offS ad_104 tp_p_ hd_p_ tf_p_ cf_p_ g o_105)) H_103 := hP
                            have hD : va_D A ([(a_r_, .inl (g 0, n_r_, .inl r__89)), (a_q_10, .inl (g 0, n_11, .inl q_12))] ++ (offS ad_104 tp_p_ hd_p_ tf_p_ cf_p_ g o_105)) := hD
                            refine W.widen (k := 11383) (n := 68686) (by omega) (by omega) ?_
                            refine lv_iload hx hb dL_isJob_441 (lv_at hl 4 rfl) ?_
                            refine lv_icmp_ne (tgt := 488) hx hb dL_isJob_443 (by decide) (fun c_106 => ?_) (fun c_106 => ?_)
                            · have hw := hw.2 c_106
                              refine lv_iconst (v := 0) hx hb dL_isJob_488 (by decide) ?_
                              refine W.widen (k := 11599) (n := 70176) (by omega) (by omega) ?_
                              subst hQM
                              obtain ⟨hP, hD⟩ := seg_sub (segs := [[(a_r_, .inl (g 0, n_r_, .inl r__89))], [(a_q_10, .inl (g 0, n_11, .inl q_12))], offS ad_104 tp_p_ hd_p_ tf_p_ cf_p_ g o_105]) [[(a_r_, .inl (g 0, n_r_, .inl r__89))], offS ad_104 tp_p_ hd_p_ tf_p_ cf_p_ g o_105] [[(a_q_10, .inl (g 0, n_11, .inl q_12))]] 3 [0, 2, 1] rfl rfl (by decide) hP hD
                              exact W.zret (v := 0) hx hb hr rfl (fun t ht hW => ⟨⟨_, (r__89, ad_104, o_105, ()), rfl, ⟨false, rfl, ⟨hw, had_104⟩⟩, ⟨P_at ht hP, hD⟩⟩, hS.F ht⟩) hS.2.2 dL_isJob_489
                            · have hw := hw.1 c_106
                              refine lv_aload_n hx hb dL_isJob_446 rfl (lv_at hl 0 rfl) ?_
                              refine lv_iconst (v := 4) hx hb dL_isJob_447 (by decide) ?_
                              obtain ⟨hPs, hDs⟩ := seg_call (segs := [[(a_r_, .inl (g 0, n_r_, .inl r__89))], [(a_q_10, .inl (g 0, n_11, .inl q_12))], offS ad_104 tp_p_ hd_p_ tf_p_ cf_p_ g o_105]) [[(a_r_, .inl (g 0, n_r_, .inl r__89))], [(a_q_10, .inl (g 0, n_11, .inl q_12))]] [offS ad_104 tp_p_ hd_p_ tf_p_ cf_p_ g o_105] 3 [0, 1, 2] rfl rfl (by decide) hP hD
                              have hPc : va_P (dC, dI) vwCl (offS ad_104 tp_p_ hd_p_ tf_p_ cf_p_ g o_105) H_103 := P_r hPs
                              have hDc : va_D A (offS ad_104 tp_p_ hd_p_ tf_p_ cf_p_ g o_105) := D_r hDs
                              have hFc : ∀ q, va_A (offS ad_104 tp_p_ hd_p_ tf_p_ cf_p_ g o_105) H_103.size q → A q := A_all hDc hA hS.1
                              refine vx_calli (vx_runV (As := [.int 4]) (rest := []) ⟨hx, hb, hml, hown, hts⟩ (p_job l hlf dC dI g tp_p_ hd_p_ tf_p_ cf_p_ htf_p_ hcf_p_ ad_104 t_p_ had_104 o_105 4 (hw := hw) (sz := H_103.size)) (cwV 1 hts (gqV aw_4_199 aw_4_200 aw_4_201 aw_1_1 aw_4_202) rfl rfl rfl (by decide +kernel) ⟨Nat.le_of_ble_eq_true rfl, Nat.le_of_ble_eq_true rfl⟩) ⟨PG_blind, off_recv had_104 hK hPc, PG_call hK hG hS hPc hDc hFc⟩ rfl rfl hl.1 rfl (lv_room (Nat.le_of_ble_eq_true rfl)) dL_isJob_448 ⟨by rw [hrc]; omega, by rw [hrs]; omega⟩) hS (fun q _ h => hFc q h) hFc (fun q _ h => hFc q h) (fun E ce q9 ux t H1 locs1 ht hvm hp9 hB9 hz hk hS9 hce hcv hcl => ?_) (fun r_107 u_107 t_107 H_107 L_107 ht_107 hvm_107 hw_107 hB_107 hz_107 hk_107 hS => ?_)
                              · exact (hB9.1.1).elim
                              obtain ⟨ad_108, o_109⟩ := u_107
                              obtain ⟨hw, had_108⟩ := hw_107
                              rw [ht_107] at hB_107
                              obtain ⟨hP1, hD1⟩ := hB_107
                              obtain ⟨hP, hD⟩ := join_r hPs hDs hk_107 hFc hP1 hD1
                              obtain ⟨hP, hD⟩ := seg_join [[(a_r_, .inl (g 0, n_r_, .inl r__89))], [(a_q_10, .inl (g 0, n_11, .inl q_12))]] [offS ad_108 tp_p_ hd_p_ tf_p_ cf_p_ g o_109] [[(a_r_, .inl (g 0, n_r_, .inl r__89))], [(a_q_10, .inl (g 0, n_11, .inl q_12))], offS ad_108 tp_p_ hd_p_ tf_p_ cf_p_ g o_109] 3 [0, 1, 2] rfl rfl (by decide) hP hD
                              have hP : va_P (dC, dI) vwCl ([(a_r_, .inl (g 0, n_r_, .inl r__89)), (a_q_10, .inl (g 0, n_11, .inl q_12))] ++ (offS ad_108 tp_p_ hd_p_ tf_p_ cf_p_ g o_109)) H_107 := hP
                              have hD : va_D A ([(a_r_, .inl (g 0, n_r_, .inl r__89)), (a_q_10, .inl (g 0, n_11, .inl q_12))] ++ (offS ad_108 tp_p_ hd_p_ tf_p_ cf_p_ g o_109)) := hD
                              refine W.widen (k := 11385) (n := 68698) (by omega) (by omega) ?_
                              refine lv_iload hx hb dL_isJob_451 (lv_at hl 8 rfl) ?_
                              refine lv_icmp_ne (tgt := 488) hx hb dL_isJob_453 (by decide) (fun c_110 => ?_) (fun c_110 => ?_)
                              · have hw := hw.2 c_110
                                refine lv_iconst (v := 0) hx hb dL_isJob_488 (by decide) ?_
                                refine W.widen (k := 11599) (n := 70176) (by omega) (by omega) ?_
                                subst hQM
                                obtain ⟨hP, hD⟩ := seg_sub (segs := [[(a_r_, .inl (g 0, n_r_, .inl r__89))], [(a_q_10, .inl (g 0, n_11, .inl q_12))], offS ad_108 tp_p_ hd_p_ tf_p_ cf_p_ g o_109]) [[(a_r_, .inl (g 0, n_r_, .inl r__89))], offS ad_108 tp_p_ hd_p_ tf_p_ cf_p_ g o_109] [[(a_q_10, .inl (g 0, n_11, .inl q_12))]] 3 [0, 2, 1] rfl rfl (by decide) hP hD
                                exact W.zret (v := 0) hx hb hr rfl (fun t ht hW => ⟨⟨_, (r__89, ad_108, o_109, ()), rfl, ⟨false, rfl, ⟨hw, had_108⟩⟩, ⟨P_at ht hP, hD⟩⟩, hS.F ht⟩) hS.2.2 dL_isJob_489
                              · have hw := hw.1 c_110
                                refine lv_aload_n hx hb dL_isJob_456 rfl (lv_at hl 0 rfl) ?_
                                refine lv_iconst (v := 5) hx hb dL_isJob_457 (by decide) ?_
                                obtain ⟨hPs, hDs⟩ := seg_call (segs := [[(a_r_, .inl (g 0, n_r_, .inl r__89))], [(a_q_10, .inl (g 0, n_11, .inl q_12))], offS ad_108 tp_p_ hd_p_ tf_p_ cf_p_ g o_109]) [[(a_r_, .inl (g 0, n_r_, .inl r__89))], [(a_q_10, .inl (g 0, n_11, .inl q_12))]] [offS ad_108 tp_p_ hd_p_ tf_p_ cf_p_ g o_109] 3 [0, 1, 2] rfl rfl (by decide) hP hD
                                have hPc : va_P (dC, dI) vwCl (offS ad_108 tp_p_ hd_p_ tf_p_ cf_p_ g o_109) H_107 := P_r hPs
                                have hDc : va_D A (offS ad_108 tp_p_ hd_p_ tf_p_ cf_p_ g o_109) := D_r hDs
                                have hFc : ∀ q, va_A (offS ad_108 tp_p_ hd_p_ tf_p_ cf_p_ g o_109) H_107.size q → A q := A_all hDc hA hS.1
                                refine vx_calli (vx_runV (As := [.int 5]) (rest := []) ⟨hx, hb, hml, hown, hts⟩ (p_job l hlf dC dI g tp_p_ hd_p_ tf_p_ cf_p_ htf_p_ hcf_p_ ad_108 t_p_ had_108 o_109 5 (hw := hw) (sz := H_107.size)) (cwV 1 hts (gqV aw_4_199 aw_4_200 aw_4_201 aw_1_1 aw_4_202) rfl rfl rfl (by decide +kernel) ⟨Nat.le_of_ble_eq_true rfl, Nat.le_of_ble_eq_true rfl⟩) ⟨PG_blind, off_recv had_108 hK hPc, PG_call hK hG hS hPc hDc hFc⟩ rfl rfl hl.1 rfl (lv_room (Nat.le_of_ble_eq_true rfl)) dL_isJob_458 ⟨by rw [hrc]; omega, by rw [hrs]; omega⟩) hS (fun q _ h => hFc q h) hFc (fun q _ h => hFc q h) (fun E ce q9 ux t H1 locs1 ht hvm hp9 hB9 hz hk hS9 hce hcv hcl => ?_) (fun r_111 u_111 t_111 H_111 L_111 ht_111 hvm_111 hw_111 hB_111 hz_111 hk_111 hS => ?_)
                                · exact (hB9.1.1).elim
                                obtain ⟨ad_112, o_113⟩ := u_111
                                obtain ⟨hw, had_112⟩ := hw_111
                                rw [ht_111] at hB_111
                                obtain ⟨hP1, hD1⟩ := hB_111
                                obtain ⟨hP, hD⟩ := join_r hPs hDs hk_111 hFc hP1 hD1
                                obtain ⟨hP, hD⟩ := seg_join [[(a_r_, .inl (g 0, n_r_, .inl r__89))], [(a_q_10, .inl (g 0, n_11, .inl q_12))]] [offS ad_112 tp_p_ hd_p_ tf_p_ cf_p_ g o_113] [[(a_r_, .inl (g 0, n_r_, .inl r__89))], [(a_q_10, .inl (g 0, n_11, .inl q_12))], offS ad_112 tp_p_ hd_p_ tf_p_ cf_p_ g o_113] 3 [0, 1, 2] rfl rfl (by decide) hP hD
                                have hP : va_P (dC, dI) vwCl ([(a_r_, .inl (g 0, n_r_, .inl r__89)), (a_q_10, .inl (g 0, n_11, .inl q_12))] ++ (offS ad_112 tp_p_ hd_p_ tf_p_ cf_p_ g o_113)) H_111 := hP
                                have hD : va_D A ([(a_r_, .inl (g 0, n_r_, .inl r__89)), (a_q_10, .inl (g 0, n_11, .inl q_12))] ++ (offS ad_112 tp_p_ hd_p_ tf_p_ cf_p_ g o_113)) := hD
                                refine W.widen (k := 11387) (n := 68710) (by omega) (by omega) ?_
                                refine lv_iload hx hb dL_isJob_461 (lv_at hl 5 rfl) ?_
                                refine lv_iload hx hb dL_isJob_463 (lv_at hl 7 rfl) ?_
                                refine lv_iadd hx hb dL_isJob_465 ?_
                                refine lv_topi (fun x_114 ex_114 => ?_)
                                have hw := hw x_114 ex_114
                                refine lv_icmp_ne (tgt := 488) hx hb dL_isJob_466 (by decide) (fun c_115 => ?_) (fun c_115 => ?_)
                                · have hw := hw.2 c_115
                                  refine lv_iconst (v := 0) hx hb dL_isJob_488 (by decide) ?_
                                  refine W.widen (k := 11599) (n := 70176) (by omega) (by omega) ?_
                                  subst hQM
                                  obtain ⟨hP, hD⟩ := seg_sub (segs := [[(a_r_, .inl (g 0, n_r_, .inl r__89))], [(a_q_10, .inl (g 0, n_11, .inl q_12))], offS ad_112 tp_p_ hd_p_ tf_p_ cf_p_ g o_113]) [[(a_r_, .inl (g 0, n_r_, .inl r__89))], offS ad_112 tp_p_ hd_p_ tf_p_ cf_p_ g o_113] [[(a_q_10, .inl (g 0, n_11, .inl q_12))]] 3 [0, 2, 1] rfl rfl (by decide) hP hD
                                  exact W.zret (v := 0) hx hb hr rfl (fun t ht hW => ⟨⟨_, (r__89, ad_112, o_113, ()), rfl, ⟨false, rfl, ⟨hw, had_112⟩⟩, ⟨P_at ht hP, hD⟩⟩, hS.F ht⟩) hS.2.2 dL_isJob_489
                                · have hw := hw.1 c_115
                                  refine lv_iload hx hb dL_isJob_469 (lv_at hl 8 rfl) ?_
                                  refine lv_iload hx hb dL_isJob_471 (lv_at hl 6 rfl) ?_
                                  refine lv_icmp_lt (tgt := 488) hx hb dL_isJob_473 (by decide) (fun c_116 => ?_) (fun c_116 => ?_)
                                  · have hw := hw.1 c_116
                                    refine lv_iconst (v := 0) hx hb dL_isJob_488 (by decide) ?_
                                    refine W.widen (k := 11599) (n := 70176) (by omega) (by omega) ?_
                                    subst hQM
                                    obtain ⟨hP, hD⟩ := seg_sub (segs := [[(a_r_, .inl (g 0, n_r_, .inl r__89))], [(a_q_10, .inl (g 0, n_11, .inl q_12))], offS ad_112 tp_p_ hd_p_ tf_p_ cf_p_ g o_113]) [[(a_r_, .inl (g 0, n_r_, .inl r__89))], offS ad_112 tp_p_ hd_p_ tf_p_ cf_p_ g o_113] [[(a_q_10, .inl (g 0, n_11, .inl q_12))]] 3 [0, 2, 1] rfl rfl (by decide) hP hD
                                    exact W.zret (v := 0) hx hb hr rfl (fun t ht hW => ⟨⟨_, (r__89, ad_112, o_113, ()), rfl, ⟨false, rfl, ⟨hw, had_112⟩⟩, ⟨P_at ht hP, hD⟩⟩, hS.F ht⟩) hS.2.2 dL_isJob_489
                                  · have hw := hw.2 c_116
                                    refine lv_iload hx hb dL_isJob_476 (lv_at hl 9 rfl) ?_
                                    have JN490 : ∀  (H : Heap) (locs : List Loc), (wj_L_isJob_490 to_ order Q n_11 q_12 r__89 o_113)  → va_P (dC, dI) vwCl ([(a_r_, .inl (g 0, n_r_, .inl r__89)), (a_q_10, .inl (g 0, n_11, .inl q_12))] ++ (offS ad_112 tp_p_ hd_p_ tf_p_ cf_p_ g o_113)) H → va_D A ([(a_r_, .inl (g 0, n_r_, .inl r__89)), (a_q_10, .inl (g 0, n_11, .inl q_12))] ++ (offS ad_112 tp_p_ hd_p_ tf_p_ cf_p_ g o_113)) → va_S A s.heap H locs → ∀ (ls : Array Slot), lv_has ls 18 [(0, .ref t_p_), (3, .int to_), (4, .int order), (5, .ref a_q_10)] → W p l e (headSpec wqL_isJob ({ frames := 10, cells := 11599, slots := 70176, locals := 174 })).room s m ([.ref t_p_, .ref a_r_, .int tape, .int to_, .int order] : List Value).toArray below meth c H locs 11387 68710 QM (F0 m 490 ls []) := by
                                      intro  H locs hw hP hD hS ls hl
                                      refine lv_aload_n hx hb dL_isJob_490 rfl (lv_at hl 0 rfl) ?_
                                      refine lv_iload_n hx hb dL_isJob_491 rfl (lv_at hl 1 rfl) ?_
                                      obtain ⟨hPs, hDs⟩ := seg_call (segs := [[(a_r_, .inl (g 0, n_r_, .inl r__89))], [(a_q_10, .inl (g 0, n_11, .inl q_12))], offS ad_112 tp_p_ hd_p_ tf_p_ cf_p_ g o_113]) [[(a_r_, .inl (g 0, n_r_, .inl r__89))], [(a_q_10, .inl (g 0, n_11, .inl q_12))]] [offS ad_112 tp_p_ hd_p_ tf_p_ cf_p_ g o_113] 3 [0, 1, 2] rfl rfl (by decide) hP hD
                                      have hPc : va_P (dC, dI) vwCl (offS ad_112 tp_p_ hd_p_ tf_p_ cf_p_ g o_113) H := P_r hPs
                                      have hDc : va_D A (offS ad_112 tp_p_ hd_p_ tf_p_ cf_p_ g o_113) := D_r hDs
                                      have hFc : ∀ q, va_A (offS ad_112 tp_p_ hd_p_ tf_p_ cf_p_ g o_113) H.size q → A q := A_all hDc hA hS.1
                                      refine va_callq (va_runS (As := [.ref t_p_, .int to_]) (rest := []) ⟨hx, hb, hml, hown, hts⟩ (c_L_tape l hlf dC dI g (tp_p_ := tp_p_) (hd_p_ := hd_p_) (tf_p_ := tf_p_) (cf_p_ := cf_p_) (htf_p_ := htf_p_) (hcf_p_ := hcf_p_) (a_p_ := ad_112) (t_p_ := t_p_) (h_p_ := had_112) (o_p_ := o_113) (tape := to_) (hw := hw) (sz := H.size)) (va_cwS 2 hts (gqS aw_3_158 aw_3_159 aw_1_0 aw_3_160) rfl rfl rfl (by decide +kernel) ⟨Nat.le_of_ble_eq_true rfl, Nat.le_of_ble_eq_true rfl⟩) ⟨PG_blind, PG_call hK hG hS hPc hDc hFc⟩ rfl rfl hl.1 rfl (lv_room (Nat.le_of_ble_eq_true rfl)) dL_isJob_492 ⟨by rw [hrc]; omega, by rw [hrs]; omega⟩) hS (fun q _ h => hFc q h) hFc (fun r_117 u_117 t_117 H_117 L_117 ht_117 hvm_117 hw_117 hB_117 hz_117 hk_117 hS => ?_)
                                      obtain ⟨ad_118, o_119, a_q_120, n_121, q_122, u_117⟩ := u_117
                                      obtain ⟨rfl, ⟨hw, had_118⟩⟩ := hw_117
                                      rw [ht_117] at hB_117
                                      obtain ⟨hP1, hD1⟩ := hB_117
                                      obtain ⟨hP, hD⟩ := join_r hPs hDs hk_117 hFc hP1 hD1
                                      obtain ⟨hP, hD⟩ := seg_join [[(a_r_, .inl (g 0, n_r_, .inl r__89))], [(a_q_10, .inl (g 0, n_11, .inl q_12))]] [[(a_q_120, .inl (g 0, n_121, .inl q_122))], offS ad_118 tp_p_ hd_p_ tf_p_ cf_p_ g o_119] [[(a_r_, .inl (g 0, n_r_, .inl r__89))], [(a_q_10, .inl (g 0, n_11, .inl q_12))], [(a_q_120, .inl (g 0, n_121, .inl q_122))], offS ad_118 tp_p_ hd_p_ tf_p_ cf_p_ g o_119] 4 [0, 1, 2, 3] rfl rfl (by decide) hP hD
                                      have hP : va_P (dC, dI) vwCl ([(a_r_, .inl (g 0, n_r_, .inl r__89)), (a_q_10, .inl (g 0, n_11, .inl q_12)), (a_q_120, .inl (g 0, n_121, .inl q_122))] ++ (offS ad_118 tp_p_ hd_p_ tf_p_ cf_p_ g o_119)) H_117 := hP
                                      have hD : va_D A ([(a_r_, .inl (g 0, n_r_, .inl r__89)), (a_q_10, .inl (g 0, n_11, .inl q_12)), (a_q_120, .inl (g 0, n_121, .inl q_122))] ++ (offS ad_118 tp_p_ hd_p_ tf_p_ cf_p_ g o_119)) := hD
                                      refine W.widen (k := 11591) (n := 70128) (by omega) (by omega) ?_
                                      refine lv_aload hx hb dL_isJob_495 (lv_at hl 3 rfl) ?_
                                      obtain ⟨hPs, hDs⟩ := seg_call (segs := [[(a_r_, .inl (g 0, n_r_, .inl r__89))], [(a_q_10, .inl (g 0, n_11, .inl q_12))], [(a_q_120, .inl (g 0, n_121, .inl q_122))], offS ad_118 tp_p_ hd_p_ tf_p_ cf_p_ g o_119]) [[(a_r_, .inl (g 0, n_r_, .inl r__89))], offS ad_118 tp_p_ hd_p_ tf_p_ cf_p_ g o_119] [[(a_q_120, .inl (g 0, n_121, .inl q_122))], [(a_q_10, .inl (g 0, n_11, .inl q_12))]] 4 [0, 3, 2, 1] rfl rfl (by decide) hP hD
                                      have hPc : va_P (dC, dI) vwCl [(a_q_120, .inl (g 0, n_121, .inl q_122)), (a_q_10, .inl (g 0, n_11, .inl q_12))] H_117 := P_r hPs
                                      have hDc : va_D A [(a_q_120, .inl (g 0, n_121, .inl q_122)), (a_q_10, .inl (g 0, n_11, .inl q_12))] := D_r hDs
                                      have hFc : ∀ q, va_A [(a_q_120, .inl (g 0, n_121, .inl q_122)), (a_q_10, .inl (g 0, n_11, .inl q_12))] H_117.size q → A q := A_all hDc hA hS.1
                                      refine va_calli (va_runS (As := [.ref a_q_120, .ref a_q_10]) (rest := []) ⟨hx, hb, hml, hown, hts⟩ (c_L_same l hlf dC dI g (a_a_ := a_q_120) (n_a_ := n_121) (a_ := q_122) (a_b_ := a_q_10) (n_b_ := n_11) (b_ := q_12) (hw := hw) (sz := H_117.size)) (va_cwS 2 hts (gqS aw_4_42 aw_4_43 aw_1_0 aw_4_44) rfl rfl rfl (by decide +kernel) ⟨Nat.le_of_ble_eq_true rfl, Nat.le_of_ble_eq_true rfl⟩) ⟨PG_blind, PG_call hK hG hS hPc hDc hFc⟩ rfl rfl hl.1 rfl (lv_room (Nat.le_of_ble_eq_true rfl)) dL_isJob_497 ⟨by rw [hrc]; omega, by rw [hrs]; omega⟩) hS (fun q _ h => hFc q h) hFc (fun r_123 u_123 t_123 H_123 L_123 ht_123 hvm_123 hw_123 hB_123 hz_123 hk_123 hS => ?_)
                                      obtain ⟨u_123⟩ := u_123
                                      obtain ⟨b_123, rfl, hw⟩ := hw_123
                                      rw [ht_123] at hB_123
                                      obtain ⟨hP1, hD1⟩ := hB_123
                                      obtain ⟨hP, hD⟩ := join_r hPs hDs hk_123 hFc hP1 hD1
                                      obtain ⟨hP, hD⟩ := seg_join [[(a_r_, .inl (g 0, n_r_, .inl r__89))], offS ad_118 tp_p_ hd_p_ tf_p_ cf_p_ g o_119] [[(a_q_120, .inl (g 0, n_121, .inl q_122))], [(a_q_10, .inl (g 0, n_11, .inl q_12))]] [[(a_r_, .inl (g 0, n_r_, .inl r__89))], [(a_q_10, .inl (g 0, n_11, .inl q_12))], [(a_q_120, .inl (g 0, n_121, .inl q_122))], offS ad_118 tp_p_ hd_p_ tf_p_ cf_p_ g o_119] 4 [0, 3, 2, 1] rfl rfl (by decide) hP hD
                                      have hP : va_P (dC, dI) vwCl ([(a_r_, .inl (g 0, n_r_, .inl r__89)), (a_q_10, .inl (g 0, n_11, .inl q_12)), (a_q_120, .inl (g 0, n_121, .inl q_122))] ++ (offS ad_118 tp_p_ hd_p_ tf_p_ cf_p_ g o_119)) H_123 := hP
                                      have hD : va_D A ([(a_r_, .inl (g 0, n_r_, .inl r__89)), (a_q_10, .inl (g 0, n_11, .inl q_12)), (a_q_120, .inl (g 0, n_121, .inl q_122))] ++ (offS ad_118 tp_p_ hd_p_ tf_p_ cf_p_ g o_119)) := hD
                                      refine W.widen (k := 11591) (n := 70128) (by omega) (by omega) ?_
                                      refine lv_if_eq (tgt := 556) hx hb dL_isJob_500 (by decide) (fun c_124 => ?_) (fun c_124 => ?_)
                                      · have hw := hw.1 (b2i_0 c_124)
                                        refine lv_iconst (v := 0) hx hb dL_isJob_556 (by decide) ?_
                                        refine W.widen (k := 11599) (n := 70176) (by omega) (by omega) ?_
                                        subst hQM
                                        obtain ⟨hP, hD⟩ := seg_sub (segs := [[(a_r_, .inl (g 0, n_r_, .inl r__89))], [(a_q_10, .inl (g 0, n_11, .inl q_12))], [(a_q_120, .inl (g 0, n_121, .inl q_122))], offS ad_118 tp_p_ hd_p_ tf_p_ cf_p_ g o_119]) [[(a_r_, .inl (g 0, n_r_, .inl r__89))], offS ad_118 tp_p_ hd_p_ tf_p_ cf_p_ g o_119] [[(a_q_10, .inl (g 0, n_11, .inl q_12))], [(a_q_120, .inl (g 0, n_121, .inl q_122))]] 4 [0, 3, 1, 2] rfl rfl (by decide) hP hD
                                        exact W.zret (v := 0) hx hb hr rfl (fun t ht hW => ⟨⟨_, (r__89, ad_118, o_119, ()), rfl, ⟨false, rfl, ⟨hw, had_118⟩⟩, ⟨P_at ht hP, hD⟩⟩, hS.F ht⟩) hS.2.2 dL_isJob_557
                                      · have hw := hw.2 (b2i_1 c_124)
                                        refine lv_aload_n hx hb dL_isJob_503 rfl (lv_at hl 0 rfl) ?_
                                        refine lv_iload_n hx hb dL_isJob_504 rfl (lv_at hl 1 rfl) ?_
                                        refine lv_iload hx hb dL_isJob_505 (lv_at hl 2 rfl) ?_
                                        obtain ⟨hPs, hDs⟩ := seg_call (segs := [[(a_r_, .inl (g 0, n_r_, .inl r__89))], [(a_q_10, .inl (g 0, n_11, .inl q_12))], [(a_q_120, .inl (g 0, n_121, .inl q_122))], offS ad_118 tp_p_ hd_p_ tf_p_ cf_p_ g o_119]) [[(a_r_, .inl (g 0, n_r_, .inl r__89))], [(a_q_10, .inl (g 0, n_11, .inl q_12))], [(a_q_120, .inl (g 0, n_121, .inl q_122))]] [offS ad_118 tp_p_ hd_p_ tf_p_ cf_p_ g o_119] 4 [0, 1, 2, 3] rfl rfl (by decide) hP hD
                                        have hPc : va_P (dC, dI) vwCl (offS ad_118 tp_p_ hd_p_ tf_p_ cf_p_ g o_119) H_123 := P_r hPs
                                        have hDc : va_D A (offS ad_118 tp_p_ hd_p_ tf_p_ cf_p_ g o_119) := D_r hDs
                                        have hFc : ∀ q, va_A (offS ad_118 tp_p_ hd_p_ tf_p_ cf_p_ g o_119) H_123.size q → A q := A_all hDc hA hS.1
                                        refine vx_calli (vx_runV (As := [.int to_, .int order]) (rest := []) ⟨hx, hb, hml, hown, hts⟩ (p_isSorted l hlf dC dI g tp_p_ hd_p_ tf_p_ cf_p_ htf_p_ hcf_p_ ad_118 t_p_ had_118 o_119 to_ order (hw := hw) (sz := H_123.size)) (cwV 2 hts (gqV aw_5_228 aw_5_229 aw_5_230 aw_1_1 aw_5_231) rfl rfl rfl (by decide +kernel) ⟨Nat.le_of_ble_eq_true rfl, Nat.le_of_ble_eq_true rfl⟩) ⟨PG_blind, off_recv had_118 hK hPc, PG_call hK hG hS hPc hDc hFc⟩ rfl rfl hl.1 rfl (lv_room (Nat.le_of_ble_eq_true rfl)) dL_isJob_507 ⟨by rw [hrc]; omega, by rw [hrs]; omega⟩) hS (fun q _ h => hFc q h) hFc (fun q _ h => hFc q h) (fun E ce q9 ux t H1 locs1 ht hvm hp9 hB9 hz hk hS9 hce hcv hcl => ?_) (fun r_125 u_125 t_125 H_125 L_125 ht_125 hvm_125 hw_125 hB_125 hz_125 hk_125 hS => ?_)
                                        · exact (hB9.1.1).elim
                                        obtain ⟨ad_126, o_127⟩ := u_125
                                        obtain ⟨b_125, rfl, ⟨hw, had_126⟩⟩ := hw_125
                                        rw [ht_125] at hB_125
                                        obtain ⟨hP1, hD1⟩ := hB_125
                                        obtain ⟨hP, hD⟩ := join_r hPs hDs hk_125 hFc hP1 hD1
                                        obtain ⟨hP, hD⟩ := seg_join [[(a_r_, .inl (g 0, n_r_, .inl r__89))], [(a_q_10, .inl (g 0, n_11, .inl q_12))], [(a_q_120, .inl (g 0, n_121, .inl q_122))]] [offS ad_126 tp_p_ hd_p_ tf_p_ cf_p_ g o_127] [[(a_r_, .inl (g 0, n_r_, .inl r__89))], [(a_q_10, .inl (g 0, n_11, .inl q_12))], [(a_q_120, .inl (g 0, n_121, .inl q_122))], offS ad_126 tp_p_ hd_p_ tf_p_ cf_p_ g o_127] 4 [0, 1, 2, 3] rfl rfl (by decide) hP hD
                                        have hP : va_P (dC, dI) vwCl ([(a_r_, .inl (g 0, n_r_, .inl r__89)), (a_q_10, .inl (g 0, n_11, .inl q_12)), (a_q_120, .inl (g 0, n_121, .inl q_122))] ++ (offS ad_126 tp_p_ hd_p_ tf_p_ cf_p_ g o_127)) H_125 := hP
                                        have hD : va_D A ([(a_r_, .inl (g 0, n_r_, .inl r__89)), (a_q_10, .inl (g 0, n_11, .inl q_12)), (a_q_120, .inl (g 0, n_121, .inl q_122))] ++ (offS ad_126 tp_p_ hd_p_ tf_p_ cf_p_ g o_127)) := hD
                                        refine W.widen (k := 11593) (n := 70140) (by omega) (by omega) ?_
                                        refine lv_if_eq (tgt := 556) hx hb dL_isJob_510 (by decide) (fun c_128 => ?_) (fun c_128 => ?_)
                                        · have hw := hw.1 (b2i_0 c_128)
                                          refine lv_iconst (v := 0) hx hb dL_isJob_556 (by decide) ?_
                                          refine W.widen (k := 11599) (n := 70176) (by omega) (by omega) ?_
                                          subst hQM
                                          obtain ⟨hP, hD⟩ := seg_sub (segs := [[(a_r_, .inl (g 0, n_r_, .inl r__89))], [(a_q_10, .inl (g 0, n_11, .inl q_12))], [(a_q_120, .inl (g 0, n_121, .inl q_122))], offS ad_126 tp_p_ hd_p_ tf_p_ cf_p_ g o_127]) [[(a_r_, .inl (g 0, n_r_, .inl r__89))], offS ad_126 tp_p_ hd_p_ tf_p_ cf_p_ g o_127] [[(a_q_10, .inl (g 0, n_11, .inl q_12))], [(a_q_120, .inl (g 0, n_121, .inl q_122))]] 4 [0, 3, 1, 2] rfl rfl (by decide) hP hD
                                          exact W.zret (v := 0) hx hb hr rfl (fun t ht hW => ⟨⟨_, (r__89, ad_126, o_127, ()), rfl, ⟨false, rfl, ⟨hw, had_126⟩⟩, ⟨P_at ht hP, hD⟩⟩, hS.F ht⟩) hS.2.2 dL_isJob_557
                                        · have hw := hw.2 (b2i_1 c_128)
                                          refine lv_aload_n hx hb dL_isJob_513 rfl (lv_at hl 0 rfl) ?_
                                          refine lv_bipush (v := 9) hx hb dL_isJob_514 (by decide) ?_
                                          refine lv_iconst (v := 1) hx hb dL_isJob_516 (by decide) ?_
                                          refine lv_iconst (v := 0) hx hb dL_isJob_517 (by decide) ?_
                                          refine lv_iconst (v := 0) hx hb dL_isJob_518 (by decide) ?_
                                          obtain ⟨hPs, hDs⟩ := seg_call (segs := [[(a_r_, .inl (g 0, n_r_, .inl r__89))], [(a_q_10, .inl (g 0, n_11, .inl q_12))], [(a_q_120, .inl (g 0, n_121, .inl q_122))], offS ad_126 tp_p_ hd_p_ tf_p_ cf_p_ g o_127]) [[(a_r_, .inl (g 0, n_r_, .inl r__89))], [(a_q_10, .inl (g 0, n_11, .inl q_12))], [(a_q_120, .inl (g 0, n_121, .inl q_122))]] [offS ad_126 tp_p_ hd_p_ tf_p_ cf_p_ g o_127] 4 [0, 1, 2, 3] rfl rfl (by decide) hP hD
                                          have hPc : va_P (dC, dI) vwCl (offS ad_126 tp_p_ hd_p_ tf_p_ cf_p_ g o_127) H_125 := P_r hPs
                                          have hDc : va_D A (offS ad_126 tp_p_ hd_p_ tf_p_ cf_p_ g o_127) := D_r hDs
                                          have hFc : ∀ q, va_A (offS ad_126 tp_p_ hd_p_ tf_p_ cf_p_ g o_127) H_125.size q → A q := A_all hDc hA hS.1
                                          refine va_calli (vx_runSW (As := [.ref t_p_, .int 9, .int 1, .int 0, .int 0]) (rest := []) ⟨hx, hb, hml, hown, hts⟩ (c_L_asks_9 l hlf dC dI g (tp_p_ := tp_p_) (hd_p_ := hd_p_) (tf_p_ := tf_p_) (cf_p_ := cf_p_) (htf_p_ := htf_p_) (hcf_p_ := hcf_p_) (a_p_ := ad_126) (t_p_ := t_p_) (h_p_ := had_126) (o_p_ := o_127) (a_ := 1) (b_ := 0) (c_ := 0) (hw := hw) (sz := H_125.size)) (vx_cwSW 5 hts (gqS aw_4_45 aw_4_46 aw_1_0 aw_4_47) rfl rfl rfl (by decide +kernel) ⟨Nat.le_of_ble_eq_true rfl, Nat.le_of_ble_eq_true rfl⟩) ⟨PG_blind, PG_call hK hG hS hPc hDc hFc⟩ rfl rfl hl.1 rfl (lv_room (Nat.le_of_ble_eq_true rfl)) dL_isJob_519 ⟨by rw [hrc]; omega, by rw [hrs]; omega⟩) hS (fun q _ h => hFc q h) hFc (fun r_129 u_129 t_129 H_129 L_129 ht_129 hvm_129 hw_129 hB_129 hz_129 hk_129 hS => ?_)
                                          obtain ⟨ad_130, o_131, u_129⟩ := u_129
                                          obtain ⟨hw, had_130⟩ := hw_129
                                          rw [ht_129] at hB_129
                                          obtain ⟨hP1, hD1⟩ := hB_129
                                          obtain ⟨hP, hD⟩ := join_r hPs hDs hk_129 hFc hP1 hD1
                                          obtain ⟨hP, hD⟩ := seg_join [[(a_r_, .inl (g 0, n_r_, .inl r__89))], [(a_q_10, .inl (g 0, n_11, .inl q_12))], [(a_q_120, .inl (g 0, n_121, .inl q_122))]] [offS ad_130 tp_p_ hd_p_ tf_p_ cf_p_ g o_131] [[(a_r_, .inl (g 0, n_r_, .inl r__89))], [(a_q_10, .inl (g 0, n_11, .inl q_12))], [(a_q_120, .inl (g 0, n_121, .inl q_122))], offS ad_130 tp_p_ hd_p_ tf_p_ cf_p_ g o_131] 4 [0, 1, 2, 3] rfl rfl (by decide) hP hD
                                          have hP : va_P (dC, dI) vwCl ([(a_r_, .inl (g 0, n_r_, .inl r__89)), (a_q_10, .inl (g 0, n_11, .inl q_12)), (a_q_120, .inl (g 0, n_121, .inl q_122))] ++ (offS ad_130 tp_p_ hd_p_ tf_p_ cf_p_ g o_131)) H_129 := hP
                                          have hD : va_D A ([(a_r_, .inl (g 0, n_r_, .inl r__89)), (a_q_10, .inl (g 0, n_11, .inl q_12)), (a_q_120, .inl (g 0, n_121, .inl q_122))] ++ (offS ad_130 tp_p_ hd_p_ tf_p_ cf_p_ g o_131)) := hD
                                          refine W.widen (k := 11596) (n := 70158) (by omega) (by omega) ?_
                                          refine lv_sipush (v := (-20004)) hx hb dL_isJob_522 (by decide) ?_
                                          refine lv_icmp_ne (tgt := 556) hx hb dL_isJob_525 (by decide) (fun c_132 => ?_) (fun c_132 => ?_)
                                          · have hw := hw.2 c_132
                                            refine lv_iconst (v := 0) hx hb dL_isJob_556 (by decide) ?_
                                            refine W.widen (k := 11599) (n := 70176) (by omega) (by omega) ?_
                                            subst hQM
                                            obtain ⟨hP, hD⟩ := seg_sub (segs := [[(a_r_, .inl (g 0, n_r_, .inl r__89))], [(a_q_10, .inl (g 0, n_11, .inl q_12))], [(a_q_120, .inl (g 0, n_121, .inl q_122))], offS ad_130 tp_p_ hd_p_ tf_p_ cf_p_ g o_131]) [[(a_r_, .inl (g 0, n_r_, .inl r__89))], offS ad_130 tp_p_ hd_p_ tf_p_ cf_p_ g o_131] [[(a_q_10, .inl (g 0, n_11, .inl q_12))], [(a_q_120, .inl (g 0, n_121, .inl q_122))]] 4 [0, 3, 1, 2] rfl rfl (by decide) hP hD
                                            exact W.zret (v := 0) hx hb hr rfl (fun t ht hW => ⟨⟨_, (r__89, ad_130, o_131, ()), rfl, ⟨false, rfl, ⟨hw, had_130⟩⟩, ⟨P_at ht hP, hD⟩⟩, hS.F ht⟩) hS.2.2 dL_isJob_557
                                          · have hw := hw.1 c_132
                                            refine lv_aload_n hx hb dL_isJob_528 rfl (lv_at hl 0 rfl) ?_
                                            refine lv_bipush (v := 10) hx hb dL_isJob_529 (by decide) ?_
                                            refine lv_iconst (v := 0) hx hb dL_isJob_531 (by decide) ?_
                                            refine lv_iconst (v := 0) hx hb dL_isJob_532 (by decide) ?_
                                            refine lv_iconst (v := 0) hx hb dL_isJob_533 (by decide) ?_
                                            obtain ⟨hPs, hDs⟩ := seg_call (segs := [[(a_r_, .inl (g 0, n_r_, .inl r__89))], [(a_q_10, .inl (g 0, n_11, .inl q_12))], [(a_q_120, .inl (g 0, n_121, .inl q_122))], offS ad_130 tp_p_ hd_p_ tf_p_ cf_p_ g o_131]) [[(a_r_, .inl (g 0, n_r_, .inl r__89))], [(a_q_10, .inl (g 0, n_11, .inl q_12))], [(a_q_120, .inl (g 0, n_121, .inl q_122))]] [offS ad_130 tp_p_ hd_p_ tf_p_ cf_p_ g o_131] 4 [0, 1, 2, 3] rfl rfl (by decide) hP hD
                                            have hPc : va_P (dC, dI) vwCl (offS ad_130 tp_p_ hd_p_ tf_p_ cf_p_ g o_131) H_129 := P_r hPs
                                            have hDc : va_D A (offS ad_130 tp_p_ hd_p_ tf_p_ cf_p_ g o_131) := D_r hDs
                                            have hFc : ∀ q, va_A (offS ad_130 tp_p_ hd_p_ tf_p_ cf_p_ g o_131) H_129.size q → A q := A_all hDc hA hS.1
                                            refine va_calli (vx_runSW (As := [.ref t_p_, .int 10, .int 0, .int 0, .int 0]) (rest := []) ⟨hx, hb, hml, hown, hts⟩ (c_L_asks_10 l hlf dC dI g (tp_p_ := tp_p_) (hd_p_ := hd_p_) (tf_p_ := tf_p_) (cf_p_ := cf_p_) (htf_p_ := htf_p_) (hcf_p_ := hcf_p_) (a_p_ := ad_130) (t_p_ := t_p_) (h_p_ := had_130) (o_p_ := o_131) (a_ := 0) (b_ := 0) (c_ := 0) (hw := hw) (sz := H_129.size)) (vx_cwSW 5 hts (gqS aw_4_45 aw_4_46 aw_1_0 aw_4_47) rfl rfl rfl (by decide +kernel) ⟨Nat.le_of_ble_eq_true rfl, Nat.le_of_ble_eq_true rfl⟩) ⟨PG_blind, PG_call hK hG hS hPc hDc hFc⟩ rfl rfl hl.1 rfl (lv_room (Nat.le_of_ble_eq_true rfl)) dL_isJob_534 ⟨by rw [hrc]; omega, by rw [hrs]; omega⟩) hS (fun q _ h => hFc q h) hFc (fun r_133 u_133 t_133 H_133 L_133 ht_133 hvm_133 hw_133 hB_133 hz_133 hk_133 hS => ?_)
                                            obtain ⟨ad_134, o_135, u_133⟩ := u_133
                                            obtain ⟨hw, had_134⟩ := hw_133
                                            rw [ht_133] at hB_133
                                            obtain ⟨hP1, hD1⟩ := hB_133
                                            obtain ⟨hP, hD⟩ := join_r hPs hDs hk_133 hFc hP1 hD1
                                            obtain ⟨hP, hD⟩ := seg_join [[(a_r_, .inl (g 0, n_r_, .inl r__89))], [(a_q_10, .inl (g 0, n_11, .inl q_12))], [(a_q_120, .inl (g 0, n_121, .inl q_122))]] [offS ad_134 tp_p_ hd_p_ tf_p_ cf_p_ g o_135] [[(a_r_, .inl (g 0, n_r_, .inl r__89))], [(a_q_10, .inl (g 0, n_11, .inl q_12))], [(a_q_120, .inl (g 0, n_121, .inl q_122))], offS ad_134 tp_p_ hd_p_ tf_p_ cf_p_ g o_135] 4 [0, 1, 2, 3] rfl rfl (by decide) hP hD
                                            have hP : va_P (dC, dI) vwCl ([(a_r_, .inl (g 0, n_r_, .inl r__89)), (a_q_10, .inl (g 0, n_11, .inl q_12)), (a_q_120, .inl (g 0, n_121, .inl q_122))] ++ (offS ad_134 tp_p_ hd_p_ tf_p_ cf_p_ g o_135)) H_133 := hP
                                            have hD : va_D A ([(a_r_, .inl (g 0, n_r_, .inl r__89)), (a_q_10, .inl (g 0, n_11, .inl q_12)), (a_q_120, .inl (g 0, n_121, .inl q_122))] ++ (offS ad_134 tp_p_ hd_p_ tf_p_ cf_p_ g o_135)) := hD
                                            refine W.widen (k := 11597) (n := 70164) (by omega) (by omega) ?_
                                            refine lv_sipush (v := (-20004)) hx hb dL_isJob_537 (by decide) ?_
                                            refine lv_icmp_ne (tgt := 556) hx hb dL_isJob_540 (by decide) (fun c_136 => ?_) (fun c_136 => ?_)
                                            · have hw := hw.2 c_136
                                              refine lv_iconst (v := 0) hx hb dL_isJob_556 (by decide) ?_
                                              refine W.widen (k := 11599) (n := 70176) (by omega) (by omega) ?_
                                              subst hQM
                                              obtain ⟨hP, hD⟩ := seg_sub (segs := [[(a_r_, .inl (g 0, n_r_, .inl r__89))], [(a_q_10, .inl (g 0, n_11, .inl q_12))], [(a_q_120, .inl (g 0, n_121, .inl q_122))], offS ad_134 tp_p_ hd_p_ tf_p_ cf_p_ g o_135]) [[(a_r_, .inl (g 0, n_r_, .inl r__89))], offS ad_134 tp_p_ hd_p_ tf_p_ cf_p_ g o_135] [[(a_q_10, .inl (g 0, n_11, .inl q_12))], [(a_q_120, .inl (g 0, n_121, .inl q_122))]] 4 [0, 3, 1, 2] rfl rfl (by decide) hP hD
                                              exact W.zret (v := 0) hx hb hr rfl (fun t ht hW => ⟨⟨_, (r__89, ad_134, o_135, ()), rfl, ⟨false, rfl, ⟨hw, had_134⟩⟩, ⟨P_at ht hP, hD⟩⟩, hS.F ht⟩) hS.2.2 dL_isJob_557
                                            · have hw := hw.1 c_136
                                              refine lv_aload_n hx hb dL_isJob_543 rfl (lv_at hl 0 rfl) ?_
                                              refine lv_iconst (v := 0) hx hb dL_isJob_544 (by decide) ?_
                                              obtain ⟨hPs, hDs⟩ := seg_call (segs := [[(a_r_, .inl (g 0, n_r_, .inl r__89))], [(a_q_10, .inl (g 0, n_11, .inl q_12))], [(a_q_120, .inl (g 0, n_121, .inl q_122))], offS ad_134 tp_p_ hd_p_ tf_p_ cf_p_ g o_135]) [[(a_r_, .inl (g 0, n_r_, .inl r__89))], [(a_q_10, .inl (g 0, n_11, .inl q_12))], [(a_q_120, .inl (g 0, n_121, .inl q_122))]] [offS ad_134 tp_p_ hd_p_ tf_p_ cf_p_ g o_135] 4 [0, 1, 2, 3] rfl rfl (by decide) hP hD
                                              have hPc : va_P (dC, dI) vwCl (offS ad_134 tp_p_ hd_p_ tf_p_ cf_p_ g o_135) H_133 := P_r hPs
                                              have hDc : va_D A (offS ad_134 tp_p_ hd_p_ tf_p_ cf_p_ g o_135) := D_r hDs
                                              have hFc : ∀ q, va_A (offS ad_134 tp_p_ hd_p_ tf_p_ cf_p_ g o_135) H_133.size q → A q := A_all hDc hA hS.1
                                              refine vx_calli (vx_runV (As := [.int 0]) (rest := []) ⟨hx, hb, hml, hown, hts⟩ (p_job l hlf dC dI g tp_p_ hd_p_ tf_p_ cf_p_ htf_p_ hcf_p_ ad_134 t_p_ had_134 o_135 0 (hw := hw) (sz := H_133.size)) (cwV 1 hts (gqV aw_4_199 aw_4_200 aw_4_201 aw_1_1 aw_4_202) rfl rfl rfl (by decide +kernel) ⟨Nat.le_of_ble_eq_true rfl, Nat.le_of_ble_eq_true rfl⟩) ⟨PG_blind, off_recv had_134 hK hPc, PG_call hK hG hS hPc hDc hFc⟩ rfl rfl hl.1 rfl (lv_room (Nat.le_of_ble_eq_true rfl)) dL_isJob_545 ⟨by rw [hrc]; omega, by rw [hrs]; omega⟩) hS (fun q _ h => hFc q h) hFc (fun q _ h => hFc q h) (fun E ce q9 ux t H1 locs1 ht hvm hp9 hB9 hz hk hS9 hce hcv hcl => ?_) (fun r_137 u_137 t_137 H_137 L_137 ht_137 hvm_137 hw_137 hB_137 hz_137 hk_137 hS => ?_)
                                              · exact (hB9.1.1).elim
                                              obtain ⟨ad_138, o_139⟩ := u_137
                                              obtain ⟨hw, had_138⟩ := hw_137
                                              rw [ht_137] at hB_137
                                              obtain ⟨hP1, hD1⟩ := hB_137
                                              obtain ⟨hP, hD⟩ := join_r hPs hDs hk_137 hFc hP1 hD1
                                              obtain ⟨hP, hD⟩ := seg_join [[(a_r_, .inl (g 0, n_r_, .inl r__89))], [(a_q_10, .inl (g 0, n_11, .inl q_12))], [(a_q_120, .inl (g 0, n_121, .inl q_122))]] [offS ad_138 tp_p_ hd_p_ tf_p_ cf_p_ g o_139] [[(a_r_, .inl (g 0, n_r_, .inl r__89))], [(a_q_10, .inl (g 0, n_11, .inl q_12))], [(a_q_120, .inl (g 0, n_121, .inl q_122))], offS ad_138 tp_p_ hd_p_ tf_p_ cf_p_ g o_139] 4 [0, 1, 2, 3] rfl rfl (by decide) hP hD
                                              have hP : va_P (dC, dI) vwCl ([(a_r_, .inl (g 0, n_r_, .inl r__89)), (a_q_10, .inl (g 0, n_11, .inl q_12)), (a_q_120, .inl (g 0, n_121, .inl q_122))] ++ (offS ad_138 tp_p_ hd_p_ tf_p_ cf_p_ g o_139)) H_137 := hP
                                              have hD : va_D A ([(a_r_, .inl (g 0, n_r_, .inl r__89)), (a_q_10, .inl (g 0, n_11, .inl q_12)), (a_q_120, .inl (g 0, n_121, .inl q_122))] ++ (offS ad_138 tp_p_ hd_p_ tf_p_ cf_p_ g o_139)) := hD
                                              refine W.widen (k := 11599) (n := 70176) (by omega) (by omega) ?_
                                              refine lv_iload_n hx hb dL_isJob_548 rfl (lv_at hl 1 rfl) ?_
                                              refine lv_icmp_ne (tgt := 556) hx hb dL_isJob_549 (by decide) (fun c_140 => ?_) (fun c_140 => ?_)
                                              · have hw := hw.2 c_140
                                                refine lv_iconst (v := 0) hx hb dL_isJob_556 (by decide) ?_
                                                refine W.widen (k := 11599) (n := 70176) (by omega) (by omega) ?_
                                                subst hQM
                                                obtain ⟨hP, hD⟩ := seg_sub (segs := [[(a_r_, .inl (g 0, n_r_, .inl r__89))], [(a_q_10, .inl (g 0, n_11, .inl q_12))], [(a_q_120, .inl (g 0, n_121, .inl q_122))], offS ad_138 tp_p_ hd_p_ tf_p_ cf_p_ g o_139]) [[(a_r_, .inl (g 0, n_r_, .inl r__89))], offS ad_138 tp_p_ hd_p_ tf_p_ cf_p_ g o_139] [[(a_q_10, .inl (g 0, n_11, .inl q_12))], [(a_q_120, .inl (g 0, n_121, .inl q_122))]] 4 [0, 3, 1, 2] rfl rfl (by decide) hP hD
                                                exact W.zret (v := 0) hx hb hr rfl (fun t ht hW => ⟨⟨_, (r__89, ad_138, o_139, ()), rfl, ⟨false, rfl, ⟨hw, had_138⟩⟩, ⟨P_at ht hP, hD⟩⟩, hS.F ht⟩) hS.2.2 dL_isJob_557
                                              · have hw := hw.1 c_140
                                                refine lv_iconst (v := 1) hx hb dL_isJob_552 (by decide) ?_
                                                refine lv_goto (tgt := 557) hx hb dL_isJob_553 (by decide) ?_
                                                refine W.widen (k := 11599) (n := 70176) (by omega) (by omega) ?_
                                                subst hQM
                                                obtain ⟨hP, hD⟩ := seg_sub (segs := [[(a_r_, .inl (g 0, n_r_, .inl r__89))], [(a_q_10, .inl (g 0, n_11, .inl q_12))], [(a_q_120, .inl (g 0, n_121, .inl q_122))], offS ad_138 tp_p_ hd_p_ tf_p_ cf_p_ g o_139]) [[(a_r_, .inl (g 0, n_r_, .inl r__89))], offS ad_138 tp_p_ hd_p_ tf_p_ cf_p_ g o_139] [[(a_q_10, .inl (g 0, n_11, .inl q_12))], [(a_q_120, .inl (g 0, n_121, .inl q_122))]] 4 [0, 3, 1, 2] rfl rfl (by decide) hP hD
                                                exact W.zret (v := 1) hx hb hr rfl (fun t ht hW => ⟨⟨_, (r__89, ad_138, o_139, ()), rfl, ⟨true, rfl, ⟨hw, had_138⟩⟩, ⟨P_at ht hP, hD⟩⟩, hS.F ht⟩) hS.2.2 dL_isJob_557
                                    refine lv_if_ne (tgt := 490) hx hb dL_isJob_478 (by decide) (fun c_141 => ?_) (fun c_141 => ?_)
                                    · have hw := hw.2 c_141
                                      refine W.widen (k := 11387) (n := 68710) (by omega) (by omega) ?_
                                      exact JN490  _ _ hw hP hD hS _ (lv_sub hl [0, 1, 2, 3] rfl)
                                    · have hw := hw.1 c_141
                                      refine lv_iload hx hb dL_isJob_481 (lv_at hl 8 rfl) ?_
                                      refine lv_iload hx hb dL_isJob_483 (lv_at hl 6 rfl) ?_
                                      refine lv_icmp_eq (tgt := 490) hx hb dL_isJob_485 (by decide) (fun c_142 => ?_) (fun c_142 => ?_)
                                      · have hw := hw.1 c_142
                                        refine W.widen (k := 11387) (n := 68710) (by omega) (by omega) ?_
                                        exact JN490  _ _ hw hP hD hS _ (lv_sub hl [0, 1, 2, 3] rfl)
                                      · have hw := hw.2 c_142
                                        refine lv_iconst (v := 0) hx hb dL_isJob_488 (by decide) ?_
                                        refine W.widen (k := 11599) (n := 70176) (by omega) (by omega) ?_
                                        subst hQM
                                        obtain ⟨hP, hD⟩ := seg_sub (segs := [[(a_r_, .inl (g 0, n_r_, .inl r__89))], [(a_q_10, .inl (g 0, n_11, .inl q_12))], offS ad_112 tp_p_ hd_p_ tf_p_ cf_p_ g o_113]) [[(a_r_, .inl (g 0, n_r_, .inl r__89))], offS ad_112 tp_p_ hd_p_ tf_p_ cf_p_ g o_113] [[(a_q_10, .inl (g 0, n_11, .inl q_12))]] 3 [0, 2, 1] rfl rfl (by decide) hP hD
                                        exact W.zret (v := 0) hx hb hr rfl (fun t ht hW => ⟨⟨_, (r__89, ad_112, o_113, ()), rfl, ⟨false, rfl, ⟨hw, had_112⟩⟩, ⟨P_at ht hP, hD⟩⟩, hS.F ht⟩) hS.2.2 dL_isJob_489
                        refine lv_if_ne (tgt := 432) hx hb dL_isJob_425 (by decide) (fun c_143 => ?_) (fun c_143 => ?_)
                        · have hw := hw.2 c_143
                          refine lv_iconst (v := 1) hx hb dL_isJob_432 (by decide) ?_
                          refine W.widen (k := 11381) (n := 68674) (by omega) (by omega) ?_
                          exact JN433 true _ _ hw hP hD hS _ (lv_sub hl [0, 1, 2, 3, 4, 5, 6, 7, 8, 9] rfl)
                        · have hw := hw.1 c_143
                          refine lv_iconst (v := 0) hx hb dL_isJob_428 (by decide) ?_
                          refine lv_goto (tgt := 433) hx hb dL_isJob_429 (by decide) ?_
                          refine W.widen (k := 11381) (n := 68674) (by omega) (by omega) ?_
                          exact JN433 false _ _ hw hP hD hS _ (lv_sub hl [0, 1, 2, 3, 4, 5, 6, 7, 8, 9] rfl)
                    have LOOP194 : ∀ (n194 : Nat), n194 ≤ 401 → ∀ (o_72 : OS) (r__73 : Nat → Int32) (v14_74 : Int32) (v11_75 : Int32) (v13_76 : Int32) (v12_77 : Int32) (ad_78 : Nat → Nat) (had_78 : ad_78 0 = t_p_) (H : Heap) (locs : List Loc), wl_L_isJob_194 n_r_ (wx_L_isJob_194_287 Q) (wx_L_isJob_194_367 Q) (wx_L_isJob_194_400 Q) (wx_L_isJob_194_408 to_ order Q n_11 q_12 r_16 x_22 r_23) n194 o_72 r__73 v14_74 v11_75 v13_76 v12_77 → va_P (dC, dI) vwCl ([(a_r_, .inl (g 0, n_r_, .inl r__73)), (a_q_10, .inl (g 0, n_11, .inl q_12))] ++ (offS ad_78 tp_p_ hd_p_ tf_p_ cf_p_ g o_72)) H → va_D A ([(a_r_, .inl (g 0, n_r_, .inl r__73)), (a_q_10, .inl (g 0, n_11, .inl q_12))] ++ (offS ad_78 tp_p_ hd_p_ tf_p_ cf_p_ g o_72)) → va_S A s.heap H locs → ∀ (ls : Array Slot), lv_has ls 18 [(0, .ref t_p_), (1, .ref a_r_), (3, .int to_), (4, .int order), (5, .ref a_q_10), (7, .int r_16), (8, .int x_22), (9, .int r_23), (11, .int v11_75), (12, .int v12_77), (13, .int v13_76), (14, .int v14_74)] → W p l e (headSpec wqL_isJob ({ frames := 10, cells := 11599, slots := 70176, locals := 174 })).room s m ([.ref t_p_, .ref a_r_, .int tape, .int to_, .int order] : List Value).toArray below meth c H locs (11377 - n194 * 19) (68650 - n194 * 114) QM (F0 m 194 ls []) := by
                      intro n194
                      induction n194 with
                      | zero =>
                        intro hle_n194
                        intro o_72 r__73 v14_74 v11_75 v13_76 v12_77 ad_78 had_78 H locs hw hP hD hS ls hl
                        exact False.elim hw
                      | succ n194 ih194 =>
                        intro hle_n194
                        have ih194 := ih194 (by omega)
                        intro o_72 r__73 v14_74 v11_75 v13_76 v12_77 ad_78 had_78 H locs hw hP hD hS ls hl
                        rw [wl_L_isJob_194_s] at hw
                        obtain ⟨kb194, hkb194⟩ : ∃ x : Nat, x = 11377 - (n194 + 1) * 19 := ⟨_, rfl⟩
                        obtain ⟨nb194, hnb194⟩ : ∃ x : Nat, x = 68650 - (n194 + 1) * 114 := ⟨_, rfl⟩
                        refine W.widen (k := kb194) (n := nb194) (by omega) (by omega) ?_
                        refine lv_iload hx hb dL_isJob_194 (lv_at hl 11 rfl) ?_
                        refine lv_sipush (v := 400) hx hb dL_isJob_196 (by decide) ?_
                        refine lv_icmp_ge (tgt := 408) hx hb dL_isJob_199 (by decide) (fun c_144 => ?_) (fun c_144 => ?_)
                        · have hw := hw.1 c_144
                          refine W.widen (k := 11377) (n := 68650) (by omega) (by omega) ?_
                          exact EX194_408 o_72 r__73 v11_75 v13_76 v12_77 ad_78 had_78 _ _ hw hP hD hS _ (lv_sub hl [0, 2, 3, 4, 5, 6, 7, 8, 9, 10] rfl)
                        · have hw := hw.2 c_144
                          refine lv_aload_n hx hb dL_isJob_202 rfl (lv_at hl 0 rfl) ?_
                          refine lv_iconst (v := 1) hx hb dL_isJob_203 (by decide) ?_
                          obtain ⟨hPs, hDs⟩ := seg_call (segs := [[(a_r_, .inl (g 0, n_r_, .inl r__73))], [(a_q_10, .inl (g 0, n_11, .inl q_12))], offS ad_78 tp_p_ hd_p_ tf_p_ cf_p_ g o_72]) [[(a_r_, .inl (g 0, n_r_, .inl r__73))], [(a_q_10, .inl (g 0, n_11, .inl q_12))]] [offS ad_78 tp_p_ hd_p_ tf_p_ cf_p_ g o_72] 3 [0, 1, 2] rfl rfl (by decide) hP hD
                          have hPc : va_P (dC, dI) vwCl (offS ad_78 tp_p_ hd_p_ tf_p_ cf_p_ g o_72) H := P_r hPs
                          have hDc : va_D A (offS ad_78 tp_p_ hd_p_ tf_p_ cf_p_ g o_72) := D_r hDs
                          have hFc : ∀ q, va_A (offS ad_78 tp_p_ hd_p_ tf_p_ cf_p_ g o_72) H.size q → A q := A_all hDc hA hS.1
                          refine vx_calli (vx_runV (As := [.int 1]) (rest := []) ⟨hx, hb, hml, hown, hts⟩ (p_job l hlf dC dI g tp_p_ hd_p_ tf_p_ cf_p_ htf_p_ hcf_p_ ad_78 t_p_ had_78 o_72 1 (hw := hw) (sz := H.size)) (cwV 1 hts (gqV aw_4_199 aw_4_200 aw_4_201 aw_1_1 aw_4_202) rfl rfl rfl (by decide +kernel) ⟨Nat.le_of_ble_eq_true rfl, Nat.le_of_ble_eq_true rfl⟩) ⟨PG_blind, off_recv had_78 hK hPc, PG_call hK hG hS hPc hDc hFc⟩ rfl rfl hl.1 rfl (lv_room (Nat.le_of_ble_eq_true rfl)) dL_isJob_204 ⟨by rw [hrc]; omega, by rw [hrs]; omega⟩) hS (fun q _ h => hFc q h) hFc (fun q _ h => hFc q h) (fun E ce q9 ux t H1 locs1 ht hvm hp9 hB9 hz hk hS9 hce hcv hcl => ?_) (fun r_145 u_145 t_145 H_145 L_145 ht_145 hvm_145 hw_145 hB_145 hz_145 hk_145 hS => ?_)
                          · exact (hB9.1.1).elim
                          obtain ⟨ad_146, o_147⟩ := u_145
                          obtain ⟨hw, had_146⟩ := hw_145
                          rw [ht_145] at hB_145
                          obtain ⟨hP1, hD1⟩ := hB_145
                          obtain ⟨hP, hD⟩ := join_r hPs hDs hk_145 hFc hP1 hD1
                          obtain ⟨hP, hD⟩ := seg_join [[(a_r_, .inl (g 0, n_r_, .inl r__73))], [(a_q_10, .inl (g 0, n_11, .inl q_12))]] [offS ad_146 tp_p_ hd_p_ tf_p_ cf_p_ g o_147] [[(a_r_, .inl (g 0, n_r_, .inl r__73))], [(a_q_10, .inl (g 0, n_11, .inl q_12))], offS ad_146 tp_p_ hd_p_ tf_p_ cf_p_ g o_147] 3 [0, 1, 2] rfl rfl (by decide) hP hD
                          have hP : va_P (dC, dI) vwCl ([(a_r_, .inl (g 0, n_r_, .inl r__73)), (a_q_10, .inl (g 0, n_11, .inl q_12))] ++ (offS ad_146 tp_p_ hd_p_ tf_p_ cf_p_ g o_147)) H_145 := hP
                          have hD : va_D A ([(a_r_, .inl (g 0, n_r_, .inl r__73)), (a_q_10, .inl (g 0, n_11, .inl q_12))] ++ (offS ad_146 tp_p_ hd_p_ tf_p_ cf_p_ g o_147)) := hD
                          refine W.widen (k := (kb194 + 2)) (n := (nb194 + 12)) (by omega) (by omega) ?_
                          refine lv_if_ne (tgt := 408) hx hb dL_isJob_207 (by decide) (fun c_148 => ?_) (fun c_148 => ?_)
                          · have hw := hw.2 c_148
                            refine W.widen (k := 11377) (n := 68650) (by omega) (by omega) ?_
                            exact EX194_408 o_147 r__73 v11_75 v13_76 v12_77 ad_146 had_146 _ _ hw hP hD hS _ (lv_sub hl [0, 2, 3, 4, 5, 6, 7, 8, 9, 10] rfl)
                          · have hw := hw.1 c_148
                            refine lv_aload_n hx hb dL_isJob_210 rfl (lv_at hl 0 rfl) ?_
                            refine lv_iconst (v := 3) hx hb dL_isJob_211 (by decide) ?_
                            obtain ⟨hPs, hDs⟩ := seg_call (segs := [[(a_r_, .inl (g 0, n_r_, .inl r__73))], [(a_q_10, .inl (g 0, n_11, .inl q_12))], offS ad_146 tp_p_ hd_p_ tf_p_ cf_p_ g o_147]) [[(a_r_, .inl (g 0, n_r_, .inl r__73))], [(a_q_10, .inl (g 0, n_11, .inl q_12))]] [offS ad_146 tp_p_ hd_p_ tf_p_ cf_p_ g o_147] 3 [0, 1, 2] rfl rfl (by decide) hP hD
                            have hPc : va_P (dC, dI) vwCl (offS ad_146 tp_p_ hd_p_ tf_p_ cf_p_ g o_147) H_145 := P_r hPs
                            have hDc : va_D A (offS ad_146 tp_p_ hd_p_ tf_p_ cf_p_ g o_147) := D_r hDs
                            have hFc : ∀ q, va_A (offS ad_146 tp_p_ hd_p_ tf_p_ cf_p_ g o_147) H_145.size q → A q := A_all hDc hA hS.1
                            refine vx_calli (vx_runV (As := [.int 3]) (rest := []) ⟨hx, hb, hml, hown, hts⟩ (p_job l hlf dC dI g tp_p_ hd_p_ tf_p_ cf_p_ htf_p_ hcf_p_ ad_146 t_p_ had_146 o_147 3 (hw := hw) (sz := H_145.size)) (cwV 1 hts (gqV aw_4_199 aw_4_200 aw_4_201 aw_1_1 aw_4_202) rfl rfl rfl (by decide +kernel) ⟨Nat.le_of_ble_eq_true rfl, Nat.le_of_ble_eq_true rfl⟩) ⟨PG_blind, off_recv had_146 hK hPc, PG_call hK hG hS hPc hDc hFc⟩ rfl rfl hl.1 rfl (lv_room (Nat.le_of_ble_eq_true rfl)) dL_isJob_212 ⟨by rw [hrc]; omega, by rw [hrs]; omega⟩) hS (fun q _ h => hFc q h) hFc (fun q _ h => hFc q h) (fun E ce q9 ux t H1 locs1 ht hvm hp9 hB9 hz hk hS9 hce hcv hcl => ?_) (fun r_149 u_149 t_149 H_149 L_149 ht_149 hvm_149 hw_149 hB_149 hz_149 hk_149 hS => ?_)
                            · exact (hB9.1.1).elim
                            obtain ⟨ad_150, o_151⟩ := u_149
                            obtain ⟨hw, had_150⟩ := hw_149
                            rw [ht_149] at hB_149
                            obtain ⟨hP1, hD1⟩ := hB_149
                            obtain ⟨hP, hD⟩ := join_r hPs hDs hk_149 hFc hP1 hD1
                            obtain ⟨hP, hD⟩ := seg_join [[(a_r_, .inl (g 0, n_r_, .inl r__73))], [(a_q_10, .inl (g 0, n_11, .inl q_12))]] [offS ad_150 tp_p_ hd_p_ tf_p_ cf_p_ g o_151] [[(a_r_, .inl (g 0, n_r_, .inl r__73))], [(a_q_10, .inl (g 0, n_11, .inl q_12))], offS ad_150 tp_p_ hd_p_ tf_p_ cf_p_ g o_151] 3 [0, 1, 2] rfl rfl (by decide) hP hD
                            have hP : va_P (dC, dI) vwCl ([(a_r_, .inl (g 0, n_r_, .inl r__73)), (a_q_10, .inl (g 0, n_11, .inl q_12))] ++ (offS ad_150 tp_p_ hd_p_ tf_p_ cf_p_ g o_151)) H_149 := hP
                            have hD : va_D A ([(a_r_, .inl (g 0, n_r_, .inl r__73)), (a_q_10, .inl (g 0, n_11, .inl q_12))] ++ (offS ad_150 tp_p_ hd_p_ tf_p_ cf_p_ g o_151)) := hD
                            refine W.widen (k := (kb194 + 4)) (n := (nb194 + 24)) (by omega) (by omega) ?_
                            refine lv_istore (lv' := [(15, .int r_149), (0, .ref t_p_), (1, .ref a_r_), (3, .int to_), (4, .int order), (5, .ref a_q_10), (7, .int r_16), (8, .int x_22), (9, .int r_23), (11, .int v11_75), (12, .int v12_77), (13, .int v13_76), (14, .int v14_74)]) hx hb dL_isJob_215 hl (by decide) rfl (fun ls hl => ?_)
                            refine lv_aload_n hx hb dL_isJob_217 rfl (lv_at hl 2 rfl) ?_
                            refine lv_bipush (v := 6) hx hb dL_isJob_218 (by decide) ?_
                            obtain ⟨hPs, hDs⟩ := seg_call (segs := [[(a_r_, .inl (g 0, n_r_, .inl r__73))], [(a_q_10, .inl (g 0, n_11, .inl q_12))], offS ad_150 tp_p_ hd_p_ tf_p_ cf_p_ g o_151]) [[(a_q_10, .inl (g 0, n_11, .inl q_12))], offS ad_150 tp_p_ hd_p_ tf_p_ cf_p_ g o_151] [[(a_r_, .inl (g 0, n_r_, .inl r__73))]] 3 [1, 2, 0] rfl rfl (by decide) hP hD
                            have hPc : va_P (dC, dI) vwCl [(a_r_, .inl (g 0, n_r_, .inl r__73))] H_149 := P_r hPs
                            have hDc : va_D A [(a_r_, .inl (g 0, n_r_, .inl r__73))] := D_r hDs
                            have hFc : ∀ q, va_A [(a_r_, .inl (g 0, n_r_, .inl r__73))] H_149.size q → A q := A_all hDc hA hS.1
                            refine va_calli (va_runS (As := [.ref a_r_, .int 6]) (rest := []) ⟨hx, hb, hml, hown, hts⟩ (c_L_draw l hlf dC dI g (a_r_ := a_r_) (n_r_ := n_r_) (r_ := r__73) (many := 6) (hw := hw) (sz := H_149.size)) (va_cwS 2 hts (gqS aw_2_215 aw_2_216 aw_1_0 aw_2_217) rfl rfl rfl (by decide +kernel) ⟨Nat.le_of_ble_eq_true rfl, Nat.le_of_ble_eq_true rfl⟩) ⟨PG_blind, PG_call hK hG hS hPc hDc hFc⟩ rfl rfl hl.1 rfl (lv_room (Nat.le_of_ble_eq_true rfl)) dL_isJob_220 ⟨by rw [hrc]; omega, by rw [hrs]; omega⟩) hS (fun q _ h => hFc q h) hFc (fun r_152 u_152 t_152 H_152 L_152 ht_152 hvm_152 hw_152 hB_152 hz_152 hk_152 hS => ?_)
                            obtain ⟨r__153, u_152⟩ := u_152
                            have hw := hw_152
                            rw [ht_152] at hB_152
                            obtain ⟨hP1, hD1⟩ := hB_152
                            obtain ⟨hP, hD⟩ := join_r hPs hDs hk_152 hFc hP1 hD1
                            obtain ⟨hP, hD⟩ := seg_join [[(a_q_10, .inl (g 0, n_11, .inl q_12))], offS ad_150 tp_p_ hd_p_ tf_p_ cf_p_ g o_151] [[(a_r_, .inl (g 0, n_r_, .inl r__153))]] [[(a_r_, .inl (g 0, n_r_, .inl r__153))], [(a_q_10, .inl (g 0, n_11, .inl q_12))], offS ad_150 tp_p_ hd_p_ tf_p_ cf_p_ g o_151] 3 [2, 0, 1] rfl rfl (by decide) hP hD
                            have hP : va_P (dC, dI) vwCl ([(a_r_, .inl (g 0, n_r_, .inl r__153)), (a_q_10, .inl (g 0, n_11, .inl q_12))] ++ (offS ad_150 tp_p_ hd_p_ tf_p_ cf_p_ g o_151)) H_152 := hP
                            have hD : va_D A ([(a_r_, .inl (g 0, n_r_, .inl r__153)), (a_q_10, .inl (g 0, n_11, .inl q_12))] ++ (offS ad_150 tp_p_ hd_p_ tf_p_ cf_p_ g o_151)) := hD
                            refine W.widen (k := (kb194 + 4)) (n := (nb194 + 24)) (by omega) (by omega) ?_
                            have JN369 : ∀ (v11_154 : Int32) (v12_155 : Int32) (v13_156 : Int32) (r__157 : Nat → Int32) (o_158 : OS) (ad_159 : Nat → Nat) (had_159 : ad_159 0 = t_p_) (H : Heap) (locs : List Loc), (wj_L_isJob_369 v14_74 (wl_L_isJob_194 n_r_ (wx_L_isJob_194_287 Q) (wx_L_isJob_194_367 Q) (wx_L_isJob_194_400 Q) (wx_L_isJob_194_408 to_ order Q n_11 q_12 r_16 x_22 r_23) n194) (wx_L_isJob_194_400 Q)) v11_154 v12_155 v13_156 r__157 o_158 → va_P (dC, dI) vwCl ([(a_r_, .inl (g 0, n_r_, .inl r__157)), (a_q_10, .inl (g 0, n_11, .inl q_12))] ++ (offS ad_159 tp_p_ hd_p_ tf_p_ cf_p_ g o_158)) H → va_D A ([(a_r_, .inl (g 0, n_r_, .inl r__157)), (a_q_10, .inl (g 0, n_11, .inl q_12))] ++ (offS ad_159 tp_p_ hd_p_ tf_p_ cf_p_ g o_158)) → va_S A s.heap H locs → ∀ (ls : Array Slot), lv_has ls 18 [(0, .ref t_p_), (1, .ref a_r_), (3, .int to_), (4, .int order), (5, .ref a_q_10), (7, .int r_16), (8, .int x_22), (9, .int r_23), (11, .int v11_154), (12, .int v12_155), (13, .int v13_156), (14, .int v14_74)] → W p l e (headSpec wqL_isJob ({ frames := 10, cells := 11599, slots := 70176, locals := 174 })).room s m ([.ref t_p_, .ref a_r_, .int tape, .int to_, .int order] : List Value).toArray below meth c H locs (kb194 + 13) (nb194 + 78) QM (F0 m 369 ls []) := by
                              intro v11_154 v12_155 v13_156 r__157 o_158 ad_159 had_159 H locs hw hP hD hS ls hl
                              refine lv_aload_n hx hb dL_isJob_369 rfl (lv_at hl 0 rfl) ?_
                              refine lv_iconst (v := 2) hx hb dL_isJob_370 (by decide) ?_
                              obtain ⟨hPs, hDs⟩ := seg_call (segs := [[(a_r_, .inl (g 0, n_r_, .inl r__157))], [(a_q_10, .inl (g 0, n_11, .inl q_12))], offS ad_159 tp_p_ hd_p_ tf_p_ cf_p_ g o_158]) [[(a_r_, .inl (g 0, n_r_, .inl r__157))], [(a_q_10, .inl (g 0, n_11, .inl q_12))]] [offS ad_159 tp_p_ hd_p_ tf_p_ cf_p_ g o_158] 3 [0, 1, 2] rfl rfl (by decide) hP hD
                              have hPc : va_P (dC, dI) vwCl (offS ad_159 tp_p_ hd_p_ tf_p_ cf_p_ g o_158) H := P_r hPs
                              have hDc : va_D A (offS ad_159 tp_p_ hd_p_ tf_p_ cf_p_ g o_158) := D_r hDs
                              have hFc : ∀ q, va_A (offS ad_159 tp_p_ hd_p_ tf_p_ cf_p_ g o_158) H.size q → A q := A_all hDc hA hS.1
                              refine vx_calli (vx_runV (As := [.int 2]) (rest := []) ⟨hx, hb, hml, hown, hts⟩ (p_job l hlf dC dI g tp_p_ hd_p_ tf_p_ cf_p_ htf_p_ hcf_p_ ad_159 t_p_ had_159 o_158 2 (hw := hw) (sz := H.size)) (cwV 1 hts (gqV aw_4_199 aw_4_200 aw_4_201 aw_1_1 aw_4_202) rfl rfl rfl (by decide +kernel) ⟨Nat.le_of_ble_eq_true rfl, Nat.le_of_ble_eq_true rfl⟩) ⟨PG_blind, off_recv had_159 hK hPc, PG_call hK hG hS hPc hDc hFc⟩ rfl rfl hl.1 rfl (lv_room (Nat.le_of_ble_eq_true rfl)) dL_isJob_371 ⟨by rw [hrc]; omega, by rw [hrs]; omega⟩) hS (fun q _ h => hFc q h) hFc (fun q _ h => hFc q h) (fun E ce q9 ux t H1 locs1 ht hvm hp9 hB9 hz hk hS9 hce hcv hcl => ?_) (fun r_160 u_160 t_160 H_160 L_160 ht_160 hvm_160 hw_160 hB_160 hz_160 hk_160 hS => ?_)
                              · exact (hB9.1.1).elim
                              obtain ⟨ad_161, o_162⟩ := u_160
                              obtain ⟨hw, had_161⟩ := hw_160
                              rw [ht_160] at hB_160
                              obtain ⟨hP1, hD1⟩ := hB_160
                              obtain ⟨hP, hD⟩ := join_r hPs hDs hk_160 hFc hP1 hD1
                              obtain ⟨hP, hD⟩ := seg_join [[(a_r_, .inl (g 0, n_r_, .inl r__157))], [(a_q_10, .inl (g 0, n_11, .inl q_12))]] [offS ad_161 tp_p_ hd_p_ tf_p_ cf_p_ g o_162] [[(a_r_, .inl (g 0, n_r_, .inl r__157))], [(a_q_10, .inl (g 0, n_11, .inl q_12))], offS ad_161 tp_p_ hd_p_ tf_p_ cf_p_ g o_162] 3 [0, 1, 2] rfl rfl (by decide) hP hD
                              have hP : va_P (dC, dI) vwCl ([(a_r_, .inl (g 0, n_r_, .inl r__157)), (a_q_10, .inl (g 0, n_11, .inl q_12))] ++ (offS ad_161 tp_p_ hd_p_ tf_p_ cf_p_ g o_162)) H_160 := hP
                              have hD : va_D A ([(a_r_, .inl (g 0, n_r_, .inl r__157)), (a_q_10, .inl (g 0, n_11, .inl q_12))] ++ (offS ad_161 tp_p_ hd_p_ tf_p_ cf_p_ g o_162)) := hD
                              refine W.widen (k := (kb194 + 15)) (n := (nb194 + 90)) (by omega) (by omega) ?_
                              refine lv_iconst (v := 1) hx hb dL_isJob_374 (by decide) ?_
                              refine lv_icmp_lt (tgt := 400) hx hb dL_isJob_375 (by decide) (fun c_163 => ?_) (fun c_163 => ?_)
                              · have hw := hw.1 c_163
                                obtain ⟨hP, hD⟩ := seg_sub (segs := [[(a_r_, .inl (g 0, n_r_, .inl r__157))], [(a_q_10, .inl (g 0, n_11, .inl q_12))], offS ad_161 tp_p_ hd_p_ tf_p_ cf_p_ g o_162]) [[(a_r_, .inl (g 0, n_r_, .inl r__157))], offS ad_161 tp_p_ hd_p_ tf_p_ cf_p_ g o_162] [[(a_q_10, .inl (g 0, n_11, .inl q_12))]] 3 [0, 2, 1] rfl rfl (by decide) hP hD
                                refine W.widen (k := 11377) (n := 68650) (by omega) (by omega) ?_
                                exact EX194_400 o_162 r__157 ad_161 had_161 _ _ hw hP hD hS _ (lv_sub hl [] rfl)
                              · have hw := hw.2 c_163
                                refine lv_aload_n hx hb dL_isJob_378 rfl (lv_at hl 0 rfl) ?_
                                refine lv_bipush (v := 6) hx hb dL_isJob_379 (by decide) ?_
                                obtain ⟨hPs, hDs⟩ := seg_call (segs := [[(a_r_, .inl (g 0, n_r_, .inl r__157))], [(a_q_10, .inl (g 0, n_11, .inl q_12))], offS ad_161 tp_p_ hd_p_ tf_p_ cf_p_ g o_162]) [[(a_r_, .inl (g 0, n_r_, .inl r__157))], [(a_q_10, .inl (g 0, n_11, .inl q_12))]] [offS ad_161 tp_p_ hd_p_ tf_p_ cf_p_ g o_162] 3 [0, 1, 2] rfl rfl (by decide) hP hD
                                have hPc : va_P (dC, dI) vwCl (offS ad_161 tp_p_ hd_p_ tf_p_ cf_p_ g o_162) H_160 := P_r hPs
                                have hDc : va_D A (offS ad_161 tp_p_ hd_p_ tf_p_ cf_p_ g o_162) := D_r hDs
                                have hFc : ∀ q, va_A (offS ad_161 tp_p_ hd_p_ tf_p_ cf_p_ g o_162) H_160.size q → A q := A_all hDc hA hS.1
                                refine vx_calli (vx_runV (As := [.int 6]) (rest := []) ⟨hx, hb, hml, hown, hts⟩ (p_job l hlf dC dI g tp_p_ hd_p_ tf_p_ cf_p_ htf_p_ hcf_p_ ad_161 t_p_ had_161 o_162 6 (hw := hw) (sz := H_160.size)) (cwV 1 hts (gqV aw_4_199 aw_4_200 aw_4_201 aw_1_1 aw_4_202) rfl rfl rfl (by decide +kernel) ⟨Nat.le_of_ble_eq_true rfl, Nat.le_of_ble_eq_true rfl⟩) ⟨PG_blind, off_recv had_161 hK hPc, PG_call hK hG hS hPc hDc hFc⟩ rfl rfl hl.1 rfl (lv_room (Nat.le_of_ble_eq_true rfl)) dL_isJob_381 ⟨by rw [hrc]; omega, by rw [hrs]; omega⟩) hS (fun q _ h => hFc q h) hFc (fun q _ h => hFc q h) (fun E ce q9 ux t H1 locs1 ht hvm hp9 hB9 hz hk hS9 hce hcv hcl => ?_) (fun r_164 u_164 t_164 H_164 L_164 ht_164 hvm_164 hw_164 hB_164 hz_164 hk_164 hS => ?_)
                                · exact (hB9.1.1).elim
                                obtain ⟨ad_165, o_166⟩ := u_164
                                obtain ⟨hw, had_165⟩ := hw_164
                                rw [ht_164] at hB_164
                                obtain ⟨hP1, hD1⟩ := hB_164
                                obtain ⟨hP, hD⟩ := join_r hPs hDs hk_164 hFc hP1 hD1
                                obtain ⟨hP, hD⟩ := seg_join [[(a_r_, .inl (g 0, n_r_, .inl r__157))], [(a_q_10, .inl (g 0, n_11, .inl q_12))]] [offS ad_165 tp_p_ hd_p_ tf_p_ cf_p_ g o_166] [[(a_r_, .inl (g 0, n_r_, .inl r__157))], [(a_q_10, .inl (g 0, n_11, .inl q_12))], offS ad_165 tp_p_ hd_p_ tf_p_ cf_p_ g o_166] 3 [0, 1, 2] rfl rfl (by decide) hP hD
                                have hP : va_P (dC, dI) vwCl ([(a_r_, .inl (g 0, n_r_, .inl r__157)), (a_q_10, .inl (g 0, n_11, .inl q_12))] ++ (offS ad_165 tp_p_ hd_p_ tf_p_ cf_p_ g o_166)) H_164 := hP
                                have hD : va_D A ([(a_r_, .inl (g 0, n_r_, .inl r__157)), (a_q_10, .inl (g 0, n_11, .inl q_12))] ++ (offS ad_165 tp_p_ hd_p_ tf_p_ cf_p_ g o_166)) := hD
                                refine W.widen (k := (kb194 + 17)) (n := (nb194 + 102)) (by omega) (by omega) ?_
                                refine lv_iload hx hb dL_isJob_384 (lv_at hl 8 rfl) ?_
                                refine lv_icmp_ne (tgt := 400) hx hb dL_isJob_386 (by decide) (fun c_167 => ?_) (fun c_167 => ?_)
                                · have hw := hw.2 c_167
                                  obtain ⟨hP, hD⟩ := seg_sub (segs := [[(a_r_, .inl (g 0, n_r_, .inl r__157))], [(a_q_10, .inl (g 0, n_11, .inl q_12))], offS ad_165 tp_p_ hd_p_ tf_p_ cf_p_ g o_166]) [[(a_r_, .inl (g 0, n_r_, .inl r__157))], offS ad_165 tp_p_ hd_p_ tf_p_ cf_p_ g o_166] [[(a_q_10, .inl (g 0, n_11, .inl q_12))]] 3 [0, 2, 1] rfl rfl (by decide) hP hD
                                  refine W.widen (k := 11377) (n := 68650) (by omega) (by omega) ?_
                                  exact EX194_400 o_166 r__157 ad_165 had_165 _ _ hw hP hD hS _ (lv_sub hl [] rfl)
                                · have hw := hw.1 c_167
                                  refine lv_aload_n hx hb dL_isJob_389 rfl (lv_at hl 0 rfl) ?_
                                  refine lv_bipush (v := 7) hx hb dL_isJob_390 (by decide) ?_
                                  obtain ⟨hPs, hDs⟩ := seg_call (segs := [[(a_r_, .inl (g 0, n_r_, .inl r__157))], [(a_q_10, .inl (g 0, n_11, .inl q_12))], offS ad_165 tp_p_ hd_p_ tf_p_ cf_p_ g o_166]) [[(a_r_, .inl (g 0, n_r_, .inl r__157))], [(a_q_10, .inl (g 0, n_11, .inl q_12))]] [offS ad_165 tp_p_ hd_p_ tf_p_ cf_p_ g o_166] 3 [0, 1, 2] rfl rfl (by decide) hP hD
                                  have hPc : va_P (dC, dI) vwCl (offS ad_165 tp_p_ hd_p_ tf_p_ cf_p_ g o_166) H_164 := P_r hPs
                                  have hDc : va_D A (offS ad_165 tp_p_ hd_p_ tf_p_ cf_p_ g o_166) := D_r hDs
                                  have hFc : ∀ q, va_A (offS ad_165 tp_p_ hd_p_ tf_p_ cf_p_ g o_166) H_164.size q → A q := A_all hDc hA hS.1
                                  refine vx_calli (vx_runV (As := [.int 7]) (rest := []) ⟨hx, hb, hml, hown, hts⟩ (p_job l hlf dC dI g tp_p_ hd_p_ tf_p_ cf_p_ htf_p_ hcf_p_ ad_165 t_p_ had_165 o_166 7 (hw := hw) (sz := H_164.size)) (cwV 1 hts (gqV aw_4_199 aw_4_200 aw_4_201 aw_1_1 aw_4_202) rfl rfl rfl (by decide +kernel) ⟨Nat.le_of_ble_eq_true rfl, Nat.le_of_ble_eq_true rfl⟩) ⟨PG_blind, off_recv had_165 hK hPc, PG_call hK hG hS hPc hDc hFc⟩ rfl rfl hl.1 rfl (lv_room (Nat.le_of_ble_eq_true rfl)) dL_isJob_392 ⟨by rw [hrc]; omega, by rw [hrs]; omega⟩) hS (fun q _ h => hFc q h) hFc (fun q _ h => hFc q h) (fun E ce q9 ux t H1 locs1 ht hvm hp9 hB9 hz hk hS9 hce hcv hcl => ?_) (fun r_168 u_168 t_168 H_168 L_168 ht_168 hvm_168 hw_168 hB_168 hz_168 hk_168 hS => ?_)
                                  · exact (hB9.1.1).elim
                                  obtain ⟨ad_169, o_170⟩ := u_168
                                  obtain ⟨hw, had_169⟩ := hw_168
                                  rw [ht_168] at hB_168
                                  obtain ⟨hP1, hD1⟩ := hB_168
                                  obtain ⟨hP, hD⟩ := join_r hPs hDs hk_168 hFc hP1 hD1
                                  obtain ⟨hP, hD⟩ := seg_join [[(a_r_, .inl (g 0, n_r_, .inl r__157))], [(a_q_10, .inl (g 0, n_11, .inl q_12))]] [offS ad_169 tp_p_ hd_p_ tf_p_ cf_p_ g o_170] [[(a_r_, .inl (g 0, n_r_, .inl r__157))], [(a_q_10, .inl (g 0, n_11, .inl q_12))], offS ad_169 tp_p_ hd_p_ tf_p_ cf_p_ g o_170] 3 [0, 1, 2] rfl rfl (by decide) hP hD
                                  have hP : va_P (dC, dI) vwCl ([(a_r_, .inl (g 0, n_r_, .inl r__157)), (a_q_10, .inl (g 0, n_11, .inl q_12))] ++ (offS ad_169 tp_p_ hd_p_ tf_p_ cf_p_ g o_170)) H_168 := hP
                                  have hD : va_D A ([(a_r_, .inl (g 0, n_r_, .inl r__157)), (a_q_10, .inl (g 0, n_11, .inl q_12))] ++ (offS ad_169 tp_p_ hd_p_ tf_p_ cf_p_ g o_170)) := hD
                                  refine W.widen (k := (kb194 + 19)) (n := (nb194 + 114)) (by omega) (by omega) ?_
                                  refine lv_iload hx hb dL_isJob_395 (lv_at hl 10 rfl) ?_
                                  refine lv_icmp_eq (tgt := 402) hx hb dL_isJob_397 (by decide) (fun c_171 => ?_) (fun c_171 => ?_)
                                  · have hw := hw.1 c_171
                                    obtain ⟨x_172, ex_172⟩ : ∃ y : Int32, y = v14_74 + 1 := ⟨_, rfl⟩
                                    have hw := hw x_172 ex_172
                                    refine lv_iinc (v := x_172) (lv' := [(14, .int x_172), (0, .ref t_p_), (1, .ref a_r_), (3, .int to_), (4, .int order), (5, .ref a_q_10), (7, .int r_16), (8, .int x_22), (9, .int r_23), (11, .int v11_154), (12, .int v12_155), (13, .int v13_156)]) hx hb dL_isJob_402 hl (k := 11) rfl (by rw [ex_172]; rfl) (by decide) rfl (fun ls hl => ?_)
                                    refine lv_goto (tgt := 194) hx hb dL_isJob_405 (by decide) ?_
                                    refine W.widen (k := (11377 - n194 * 19)) (n := (68650 - n194 * 114)) (by omega) (by omega) ?_
                                    exact ih194 o_170 r__157 x_172 v11_154 v13_156 v12_155 ad_169 had_169 _ _ hw hP hD hS _ (lv_sub hl [1, 2, 3, 4, 5, 6, 7, 8, 9, 10, 11, 0] rfl)
                                  · have hw := hw.2 c_171
                                    obtain ⟨hP, hD⟩ := seg_sub (segs := [[(a_r_, .inl (g 0, n_r_, .inl r__157))], [(a_q_10, .inl (g 0, n_11, .inl q_12))], offS ad_169 tp_p_ hd_p_ tf_p_ cf_p_ g o_170]) [[(a_r_, .inl (g 0, n_r_, .inl r__157))], offS ad_169 tp_p_ hd_p_ tf_p_ cf_p_ g o_170] [[(a_q_10, .inl (g 0, n_11, .inl q_12))]] 3 [0, 2, 1] rfl rfl (by decide) hP hD
                                    refine W.widen (k := 11377) (n := 68650) (by omega) (by omega) ?_
                                    exact EX194_400 o_170 r__157 ad_169 had_169 _ _ hw hP hD hS _ (lv_sub hl [] rfl)
                            have JN295 : ∀  (H : Heap) (locs : List Loc), (wj_L_isJob_295 n_r_ v14_74 v11_75 v13_76 v12_77 (wl_L_isJob_194 n_r_ (wx_L_isJob_194_287 Q) (wx_L_isJob_194_367 Q) (wx_L_isJob_194_400 Q) (wx_L_isJob_194_408 to_ order Q n_11 q_12 r_16 x_22 r_23) n194) (wx_L_isJob_194_367 Q) (wx_L_isJob_194_400 Q) o_151 r__153)  → va_P (dC, dI) vwCl ([(a_r_, .inl (g 0, n_r_, .inl r__153)), (a_q_10, .inl (g 0, n_11, .inl q_12))] ++ (offS ad_150 tp_p_ hd_p_ tf_p_ cf_p_ g o_151)) H → va_D A ([(a_r_, .inl (g 0, n_r_, .inl r__153)), (a_q_10, .inl (g 0, n_11, .inl q_12))] ++ (offS ad_150 tp_p_ hd_p_ tf_p_ cf_p_ g o_151)) → va_S A s.heap H locs → ∀ (ls : Array Slot), lv_has ls 18 [(0, .ref t_p_), (1, .ref a_r_), (3, .int to_), (4, .int order), (5, .ref a_q_10), (7, .int r_16), (8, .int x_22), (9, .int r_23), (11, .int v11_75), (12, .int v12_77), (13, .int v13_76), (14, .int v14_74)] → W p l e (headSpec wqL_isJob ({ frames := 10, cells := 11599, slots := 70176, locals := 174 })).room s m ([.ref t_p_, .ref a_r_, .int tape, .int to_, .int order] : List Value).toArray below meth c H locs (kb194 + 4) (nb194 + 24) QM (F0 m 295 ls []) := by
                              intro  H locs hw hP hD hS ls hl
                              refine lv_iconst (v := 1) hx hb dL_isJob_295 (by decide) ?_
                              refine lv_aload_n hx hb dL_isJob_296 rfl (lv_at hl 1 rfl) ?_
                              refine lv_iconst (v := 5) hx hb dL_isJob_297 (by decide) ?_
                              obtain ⟨hPs, hDs⟩ := seg_call (segs := [[(a_r_, .inl (g 0, n_r_, .inl r__153))], [(a_q_10, .inl (g 0, n_11, .inl q_12))], offS ad_150 tp_p_ hd_p_ tf_p_ cf_p_ g o_151]) [[(a_q_10, .inl (g 0, n_11, .inl q_12))], offS ad_150 tp_p_ hd_p_ tf_p_ cf_p_ g o_151] [[(a_r_, .inl (g 0, n_r_, .inl r__153))]] 3 [1, 2, 0] rfl rfl (by decide) hP hD
                              have hPc : va_P (dC, dI) vwCl [(a_r_, .inl (g 0, n_r_, .inl r__153))] H := P_r hPs
                              have hDc : va_D A [(a_r_, .inl (g 0, n_r_, .inl r__153))] := D_r hDs
                              have hFc : ∀ q, va_A [(a_r_, .inl (g 0, n_r_, .inl r__153))] H.size q → A q := A_all hDc hA hS.1
                              refine va_calli (va_runS (As := [.ref a_r_, .int 5]) (rest := [.int 1]) ⟨hx, hb, hml, hown, hts⟩ (c_L_draw l hlf dC dI g (a_r_ := a_r_) (n_r_ := n_r_) (r_ := r__153) (many := 5) (hw := hw) (sz := H.size)) (va_cwS 2 hts (gqS aw_2_215 aw_2_216 aw_1_0 aw_2_217) rfl rfl rfl (by decide +kernel) ⟨Nat.le_of_ble_eq_true rfl, Nat.le_of_ble_eq_true rfl⟩) ⟨PG_blind, PG_call hK hG hS hPc hDc hFc⟩ rfl rfl hl.1 rfl (lv_room (Nat.le_of_ble_eq_true rfl)) dL_isJob_298 ⟨by rw [hrc]; omega, by rw [hrs]; omega⟩) hS (fun q _ h => hFc q h) hFc (fun r_173 u_173 t_173 H_173 L_173 ht_173 hvm_173 hw_173 hB_173 hz_173 hk_173 hS => ?_)
                              obtain ⟨r__174, u_173⟩ := u_173
                              have hw := hw_173
                              rw [ht_173] at hB_173
                              obtain ⟨hP1, hD1⟩ := hB_173
                              obtain ⟨hP, hD⟩ := join_r hPs hDs hk_173 hFc hP1 hD1
                              obtain ⟨hP, hD⟩ := seg_join [[(a_q_10, .inl (g 0, n_11, .inl q_12))], offS ad_150 tp_p_ hd_p_ tf_p_ cf_p_ g o_151] [[(a_r_, .inl (g 0, n_r_, .inl r__174))]] [[(a_r_, .inl (g 0, n_r_, .inl r__174))], [(a_q_10, .inl (g 0, n_11, .inl q_12))], offS ad_150 tp_p_ hd_p_ tf_p_ cf_p_ g o_151] 3 [2, 0, 1] rfl rfl (by decide) hP hD
                              have hP : va_P (dC, dI) vwCl ([(a_r_, .inl (g 0, n_r_, .inl r__174)), (a_q_10, .inl (g 0, n_11, .inl q_12))] ++ (offS ad_150 tp_p_ hd_p_ tf_p_ cf_p_ g o_151)) H_173 := hP
                              have hD : va_D A ([(a_r_, .inl (g 0, n_r_, .inl r__174)), (a_q_10, .inl (g 0, n_11, .inl q_12))] ++ (offS ad_150 tp_p_ hd_p_ tf_p_ cf_p_ g o_151)) := hD
                              refine W.widen (k := (kb194 + 4)) (n := (nb194 + 24)) (by omega) (by omega) ?_
                              refine lv_iadd hx hb dL_isJob_301 ?_
                              refine lv_topi (fun x_175 ex_175 => ?_)
                              have hw := hw x_175 ex_175
                              refine lv_istore (lv' := [(16, .int x_175), (0, .ref t_p_), (1, .ref a_r_), (3, .int to_), (4, .int order), (5, .ref a_q_10), (7, .int r_16), (8, .int x_22), (9, .int r_23), (11, .int v11_75), (12, .int v12_77), (13, .int v13_76), (14, .int v14_74)]) hx hb dL_isJob_302 hl (by decide) rfl (fun ls hl => ?_)
                              refine lv_aload_n hx hb dL_isJob_304 rfl (lv_at hl 1 rfl) ?_
                              refine lv_iconst (v := 4) hx hb dL_isJob_305 (by decide) ?_
                              obtain ⟨hPs, hDs⟩ := seg_call (segs := [[(a_r_, .inl (g 0, n_r_, .inl r__174))], [(a_q_10, .inl (g 0, n_11, .inl q_12))], offS ad_150 tp_p_ hd_p_ tf_p_ cf_p_ g o_151]) [[(a_r_, .inl (g 0, n_r_, .inl r__174))], [(a_q_10, .inl (g 0, n_11, .inl q_12))]] [offS ad_150 tp_p_ hd_p_ tf_p_ cf_p_ g o_151] 3 [0, 1, 2] rfl rfl (by decide) hP hD
                              have hPc : va_P (dC, dI) vwCl (offS ad_150 tp_p_ hd_p_ tf_p_ cf_p_ g o_151) H_173 := P_r hPs
                              have hDc : va_D A (offS ad_150 tp_p_ hd_p_ tf_p_ cf_p_ g o_151) := D_r hDs
                              have hFc : ∀ q, va_A (offS ad_150 tp_p_ hd_p_ tf_p_ cf_p_ g o_151) H_173.size q → A q := A_all hDc hA hS.1
                              refine vx_calli (vx_runV (As := [.int 4]) (rest := []) ⟨hx, hb, hml, hown, hts⟩ (p_job l hlf dC dI g tp_p_ hd_p_ tf_p_ cf_p_ htf_p_ hcf_p_ ad_150 t_p_ had_150 o_151 4 (hw := hw) (sz := H_173.size)) (cwV 1 hts (gqV aw_4_199 aw_4_200 aw_4_201 aw_1_1 aw_4_202) rfl rfl rfl (by decide +kernel) ⟨Nat.le_of_ble_eq_true rfl, Nat.le_of_ble_eq_true rfl⟩) ⟨PG_blind, off_recv had_150 hK hPc, PG_call hK hG hS hPc hDc hFc⟩ rfl rfl hl.1 rfl (lv_room (Nat.le_of_ble_eq_true rfl)) dL_isJob_306 ⟨by rw [hrc]; omega, by rw [hrs]; omega⟩) hS (fun q _ h => hFc q h) hFc (fun q _ h => hFc q h) (fun E ce q9 ux t H1 locs1 ht hvm hp9 hB9 hz hk hS9 hce hcv hcl => ?_) (fun r_176 u_176 t_176 H_176 L_176 ht_176 hvm_176 hw_176 hB_176 hz_176 hk_176 hS => ?_)
                              · exact (hB9.1.1).elim
                              obtain ⟨ad_177, o_178⟩ := u_176
                              obtain ⟨hw, had_177⟩ := hw_176
                              rw [ht_176] at hB_176
                              obtain ⟨hP1, hD1⟩ := hB_176
                              obtain ⟨hP, hD⟩ := join_r hPs hDs hk_176 hFc hP1 hD1
                              obtain ⟨hP, hD⟩ := seg_join [[(a_r_, .inl (g 0, n_r_, .inl r__174))], [(a_q_10, .inl (g 0, n_11, .inl q_12))]] [offS ad_177 tp_p_ hd_p_ tf_p_ cf_p_ g o_178] [[(a_r_, .inl (g 0, n_r_, .inl r__174))], [(a_q_10, .inl (g 0, n_11, .inl q_12))], offS ad_177 tp_p_ hd_p_ tf_p_ cf_p_ g o_178] 3 [0, 1, 2] rfl rfl (by decide) hP hD
                              have hP : va_P (dC, dI) vwCl ([(a_r_, .inl (g 0, n_r_, .inl r__174)), (a_q_10, .inl (g 0, n_11, .inl q_12))] ++ (offS ad_177 tp_p_ hd_p_ tf_p_ cf_p_ g o_178)) H_176 := hP
                              have hD : va_D A ([(a_r_, .inl (g 0, n_r_, .inl r__174)), (a_q_10, .inl (g 0, n_11, .inl q_12))] ++ (offS ad_177 tp_p_ hd_p_ tf_p_ cf_p_ g o_178)) := hD
                              refine W.widen (k := (kb194 + 6)) (n := (nb194 + 36)) (by omega) (by omega) ?_
                              refine lv_istore (lv' := [(17, .int r_176), (16, .int x_175), (0, .ref t_p_), (1, .ref a_r_), (3, .int to_), (4, .int order), (5, .ref a_q_10), (7, .int r_16), (8, .int x_22), (9, .int r_23), (11, .int v11_75), (12, .int v12_77), (13, .int v13_76), (14, .int v14_74)]) hx hb dL_isJob_309 hl (by decide) rfl (fun ls hl => ?_)
                              refine lv_aload_n hx hb dL_isJob_311 rfl (lv_at hl 2 rfl) ?_
                              refine lv_iload hx hb dL_isJob_312 (lv_at hl 1 rfl) ?_
                              obtain ⟨hPs, hDs⟩ := seg_call (segs := [[(a_r_, .inl (g 0, n_r_, .inl r__174))], [(a_q_10, .inl (g 0, n_11, .inl q_12))], offS ad_177 tp_p_ hd_p_ tf_p_ cf_p_ g o_178]) [[(a_r_, .inl (g 0, n_r_, .inl r__174))], [(a_q_10, .inl (g 0, n_11, .inl q_12))]] [offS ad_177 tp_p_ hd_p_ tf_p_ cf_p_ g o_178] 3 [0, 1, 2] rfl rfl (by decide) hP hD
                              have hPc : va_P (dC, dI) vwCl (offS ad_177 tp_p_ hd_p_ tf_p_ cf_p_ g o_178) H_176 := P_r hPs
                              have hDc : va_D A (offS ad_177 tp_p_ hd_p_ tf_p_ cf_p_ g o_178) := D_r hDs
                              have hFc : ∀ q, va_A (offS ad_177 tp_p_ hd_p_ tf_p_ cf_p_ g o_178) H_176.size q → A q := A_all hDc hA hS.1
                              refine vx_calli (vx_runV (As := [.int x_175]) (rest := []) ⟨hx, hb, hml, hown, hts⟩ (p_work l hlf dC dI g tp_p_ hd_p_ tf_p_ cf_p_ htf_p_ hcf_p_ ad_177 t_p_ had_177 o_178 x_175 (hw := hw) (sz := H_176.size)) (cwV 1 hts (gqV aw_4_149 aw_4_150 aw_4_151 aw_1_1 aw_4_152) rfl rfl rfl (by decide +kernel) ⟨Nat.le_of_ble_eq_true rfl, Nat.le_of_ble_eq_true rfl⟩) ⟨PG_blind, off_recv had_177 hK hPc, PG_call hK hG hS hPc hDc hFc⟩ rfl rfl hl.1 rfl (lv_room (Nat.le_of_ble_eq_true rfl)) dL_isJob_314 ⟨by rw [hrc]; omega, by rw [hrs]; omega⟩) hS (fun q _ h => hFc q h) hFc (fun q _ h => hFc q h) (fun E ce q9 ux t H1 locs1 ht hvm hp9 hB9 hz hk hS9 hce hcv hcl => ?_) (fun r_179 u_179 t_179 H_179 L_179 ht_179 hvm_179 hw_179 hB_179 hz_179 hk_179 hS => ?_)
                              · exact (hB9.1.1).elim
                              obtain ⟨ad_180, o_181⟩ := u_179
                              obtain ⟨hw, had_180⟩ := hw_179
                              rw [ht_179] at hB_179
                              obtain ⟨hP1, hD1⟩ := hB_179
                              obtain ⟨hP, hD⟩ := join_r hPs hDs hk_179 hFc hP1 hD1
                              obtain ⟨hP, hD⟩ := seg_join [[(a_r_, .inl (g 0, n_r_, .inl r__174))], [(a_q_10, .inl (g 0, n_11, .inl q_12))]] [offS ad_180 tp_p_ hd_p_ tf_p_ cf_p_ g o_181] [[(a_r_, .inl (g 0, n_r_, .inl r__174))], [(a_q_10, .inl (g 0, n_11, .inl q_12))], offS ad_180 tp_p_ hd_p_ tf_p_ cf_p_ g o_181] 3 [0, 1, 2] rfl rfl (by decide) hP hD
                              have hP : va_P (dC, dI) vwCl ([(a_r_, .inl (g 0, n_r_, .inl r__174)), (a_q_10, .inl (g 0, n_11, .inl q_12))] ++ (offS ad_180 tp_p_ hd_p_ tf_p_ cf_p_ g o_181)) H_179 := hP
                              have hD : va_D A ([(a_r_, .inl (g 0, n_r_, .inl r__174)), (a_q_10, .inl (g 0, n_11, .inl q_12))] ++ (offS ad_180 tp_p_ hd_p_ tf_p_ cf_p_ g o_181)) := hD
                              refine W.widen (k := (kb194 + 9)) (n := (nb194 + 54)) (by omega) (by omega) ?_
                              refine lv_istore (lv' := [(10, .int r_179), (17, .int r_176), (16, .int x_175), (0, .ref t_p_), (1, .ref a_r_), (3, .int to_), (4, .int order), (5, .ref a_q_10), (7, .int r_16), (8, .int x_22), (9, .int r_23), (11, .int v11_75), (12, .int v12_77), (13, .int v13_76), (14, .int v14_74)]) hx hb dL_isJob_317 hl (by decide) rfl (fun ls hl => ?_)
                              refine lv_iload hx hb dL_isJob_319 (lv_at hl 12 rfl) ?_
                              refine lv_iload hx hb dL_isJob_321 (lv_at hl 0 rfl) ?_
                              refine lv_iadd hx hb dL_isJob_323 ?_
                              refine lv_topi (fun x_182 ex_182 => ?_)
                              have hw := hw x_182 ex_182
                              refine lv_istore (lv' := [(12, .int x_182), (10, .int r_179), (17, .int r_176), (16, .int x_175), (0, .ref t_p_), (1, .ref a_r_), (3, .int to_), (4, .int order), (5, .ref a_q_10), (7, .int r_16), (8, .int x_22), (9, .int r_23), (11, .int v11_75), (13, .int v13_76), (14, .int v14_74)]) hx hb dL_isJob_324 hl (by decide) rfl (fun ls hl => ?_)
                              refine lv_iload hx hb dL_isJob_326 (lv_at hl 1 rfl) ?_
                              refine lv_iconst (v := 1) hx hb dL_isJob_328 (by decide) ?_
                              refine lv_icmp_lt (tgt := 367) hx hb dL_isJob_329 (by decide) (fun c_183 => ?_) (fun c_183 => ?_)
                              · have hw := hw.1 c_183
                                obtain ⟨hP, hD⟩ := seg_sub (segs := [[(a_r_, .inl (g 0, n_r_, .inl r__174))], [(a_q_10, .inl (g 0, n_11, .inl q_12))], offS ad_180 tp_p_ hd_p_ tf_p_ cf_p_ g o_181]) [[(a_r_, .inl (g 0, n_r_, .inl r__174))], offS ad_180 tp_p_ hd_p_ tf_p_ cf_p_ g o_181] [[(a_q_10, .inl (g 0, n_11, .inl q_12))]] 3 [0, 2, 1] rfl rfl (by decide) hP hD
                                refine W.widen (k := 11377) (n := 68650) (by omega) (by omega) ?_
                                exact EX194_367 o_181 r__174 ad_180 had_180 _ _ hw hP hD hS _ (lv_sub hl [] rfl)
                              · have hw := hw.2 c_183
                                refine lv_iload hx hb dL_isJob_332 (lv_at hl 1 rfl) ?_
                                refine lv_iload hx hb dL_isJob_334 (lv_at hl 3 rfl) ?_
                                refine lv_icmp_gt (tgt := 367) hx hb dL_isJob_336 (by decide) (fun c_184 => ?_) (fun c_184 => ?_)
                                · have hw := hw.1 c_184
                                  obtain ⟨hP, hD⟩ := seg_sub (segs := [[(a_r_, .inl (g 0, n_r_, .inl r__174))], [(a_q_10, .inl (g 0, n_11, .inl q_12))], offS ad_180 tp_p_ hd_p_ tf_p_ cf_p_ g o_181]) [[(a_r_, .inl (g 0, n_r_, .inl r__174))], offS ad_180 tp_p_ hd_p_ tf_p_ cf_p_ g o_181] [[(a_q_10, .inl (g 0, n_11, .inl q_12))]] 3 [0, 2, 1] rfl rfl (by decide) hP hD
                                  refine W.widen (k := 11377) (n := 68650) (by omega) (by omega) ?_
                                  exact EX194_367 o_181 r__174 ad_180 had_180 _ _ hw hP hD hS _ (lv_sub hl [] rfl)
                                · have hw := hw.2 c_184
                                  refine lv_iload hx hb dL_isJob_339 (lv_at hl 1 rfl) ?_
                                  refine lv_iload hx hb dL_isJob_341 (lv_at hl 3 rfl) ?_
                                  have JN354 : ∀ (o_185 : OS) (ad_186 : Nat → Nat) (had_186 : ad_186 0 = t_p_) (H : Heap) (locs : List Loc), (wj_L_isJob_354 v14_74 v11_75 v13_76 (wl_L_isJob_194 n_r_ (wx_L_isJob_194_287 Q) (wx_L_isJob_194_367 Q) (wx_L_isJob_194_400 Q) (wx_L_isJob_194_408 to_ order Q n_11 q_12 r_16 x_22 r_23) n194) (wx_L_isJob_194_367 Q) (wx_L_isJob_194_400 Q) r__174 r_176 r_179 x_182) o_185 → va_P (dC, dI) vwCl ([(a_r_, .inl (g 0, n_r_, .inl r__174)), (a_q_10, .inl (g 0, n_11, .inl q_12))] ++ (offS ad_186 tp_p_ hd_p_ tf_p_ cf_p_ g o_185)) H → va_D A ([(a_r_, .inl (g 0, n_r_, .inl r__174)), (a_q_10, .inl (g 0, n_11, .inl q_12))] ++ (offS ad_186 tp_p_ hd_p_ tf_p_ cf_p_ g o_185)) → va_S A s.heap H locs → ∀ (ls : Array Slot), lv_has ls 18 [(0, .ref t_p_), (1, .ref a_r_), (3, .int to_), (4, .int order), (5, .ref a_q_10), (7, .int r_16), (8, .int x_22), (9, .int r_23), (10, .int r_179), (11, .int v11_75), (12, .int x_182), (13, .int v13_76), (14, .int v14_74), (17, .int r_176)] → W p l e (headSpec wqL_isJob ({ frames := 10, cells := 11599, slots := 70176, locals := 174 })).room s m ([.ref t_p_, .ref a_r_, .int tape, .int to_, .int order] : List Value).toArray below meth c H locs (kb194 + 11) (nb194 + 66) QM (F0 m 354 ls []) := by
                                    intro o_185 ad_186 had_186 H locs hw hP hD hS ls hl
                                    refine lv_aload_n hx hb dL_isJob_354 rfl (lv_at hl 0 rfl) ?_
                                    refine lv_iconst (v := 4) hx hb dL_isJob_355 (by decide) ?_
                                    obtain ⟨hPs, hDs⟩ := seg_call (segs := [[(a_r_, .inl (g 0, n_r_, .inl r__174))], [(a_q_10, .inl (g 0, n_11, .inl q_12))], offS ad_186 tp_p_ hd_p_ tf_p_ cf_p_ g o_185]) [[(a_r_, .inl (g 0, n_r_, .inl r__174))], [(a_q_10, .inl (g 0, n_11, .inl q_12))]] [offS ad_186 tp_p_ hd_p_ tf_p_ cf_p_ g o_185] 3 [0, 1, 2] rfl rfl (by decide) hP hD
                                    have hPc : va_P (dC, dI) vwCl (offS ad_186 tp_p_ hd_p_ tf_p_ cf_p_ g o_185) H := P_r hPs
                                    have hDc : va_D A (offS ad_186 tp_p_ hd_p_ tf_p_ cf_p_ g o_185) := D_r hDs
                                    have hFc : ∀ q, va_A (offS ad_186 tp_p_ hd_p_ tf_p_ cf_p_ g o_185) H.size q → A q := A_all hDc hA hS.1
                                    refine vx_calli (vx_runV (As := [.int 4]) (rest := []) ⟨hx, hb, hml, hown, hts⟩ (p_job l hlf dC dI g tp_p_ hd_p_ tf_p_ cf_p_ htf_p_ hcf_p_ ad_186 t_p_ had_186 o_185 4 (hw := hw) (sz := H.size)) (cwV 1 hts (gqV aw_4_199 aw_4_200 aw_4_201 aw_1_1 aw_4_202) rfl rfl rfl (by decide +kernel) ⟨Nat.le_of_ble_eq_true rfl, Nat.le_of_ble_eq_true rfl⟩) ⟨PG_blind, off_recv had_186 hK hPc, PG_call hK hG hS hPc hDc hFc⟩ rfl rfl hl.1 rfl (lv_room (Nat.le_of_ble_eq_true rfl)) dL_isJob_356 ⟨by rw [hrc]; omega, by rw [hrs]; omega⟩) hS (fun q _ h => hFc q h) hFc (fun q _ h => hFc q h) (fun E ce q9 ux t H1 locs1 ht hvm hp9 hB9 hz hk hS9 hce hcv hcl => ?_) (fun r_187 u_187 t_187 H_187 L_187 ht_187 hvm_187 hw_187 hB_187 hz_187 hk_187 hS => ?_)
                                    · exact (hB9.1.1).elim
                                    obtain ⟨ad_188, o_189⟩ := u_187
                                    obtain ⟨hw, had_188⟩ := hw_187
                                    rw [ht_187] at hB_187
                                    obtain ⟨hP1, hD1⟩ := hB_187
                                    obtain ⟨hP, hD⟩ := join_r hPs hDs hk_187 hFc hP1 hD1
                                    obtain ⟨hP, hD⟩ := seg_join [[(a_r_, .inl (g 0, n_r_, .inl r__174))], [(a_q_10, .inl (g 0, n_11, .inl q_12))]] [offS ad_188 tp_p_ hd_p_ tf_p_ cf_p_ g o_189] [[(a_r_, .inl (g 0, n_r_, .inl r__174))], [(a_q_10, .inl (g 0, n_11, .inl q_12))], offS ad_188 tp_p_ hd_p_ tf_p_ cf_p_ g o_189] 3 [0, 1, 2] rfl rfl (by decide) hP hD
                                    have hP : va_P (dC, dI) vwCl ([(a_r_, .inl (g 0, n_r_, .inl r__174)), (a_q_10, .inl (g 0, n_11, .inl q_12))] ++ (offS ad_188 tp_p_ hd_p_ tf_p_ cf_p_ g o_189)) H_187 := hP
                                    have hD : va_D A ([(a_r_, .inl (g 0, n_r_, .inl r__174)), (a_q_10, .inl (g 0, n_11, .inl q_12))] ++ (offS ad_188 tp_p_ hd_p_ tf_p_ cf_p_ g o_189)) := hD
                                    refine W.widen (k := (kb194 + 13)) (n := (nb194 + 78)) (by omega) (by omega) ?_
                                    refine lv_iload hx hb dL_isJob_359 (lv_at hl 13 rfl) ?_
                                    refine lv_iload hx hb dL_isJob_361 (lv_at hl 8 rfl) ?_
                                    refine lv_iadd hx hb dL_isJob_363 ?_
                                    refine lv_topi (fun x_190 ex_190 => ?_)
                                    have hw := hw x_190 ex_190
                                    refine lv_icmp_eq (tgt := 369) hx hb dL_isJob_364 (by decide) (fun c_191 => ?_) (fun c_191 => ?_)
                                    · have hw := hw.1 c_191
                                      refine W.widen (k := (kb194 + 13)) (n := (nb194 + 78)) (by omega) (by omega) ?_
                                      exact JN369 v11_75 x_182 v13_76 r__174 o_189 ad_188 had_188 _ _ hw hP hD hS _ (lv_sub hl [0, 1, 2, 3, 4, 5, 6, 7, 9, 10, 11, 12] rfl)
                                    · have hw := hw.2 c_191
                                      obtain ⟨hP, hD⟩ := seg_sub (segs := [[(a_r_, .inl (g 0, n_r_, .inl r__174))], [(a_q_10, .inl (g 0, n_11, .inl q_12))], offS ad_188 tp_p_ hd_p_ tf_p_ cf_p_ g o_189]) [[(a_r_, .inl (g 0, n_r_, .inl r__174))], offS ad_188 tp_p_ hd_p_ tf_p_ cf_p_ g o_189] [[(a_q_10, .inl (g 0, n_11, .inl q_12))]] 3 [0, 2, 1] rfl rfl (by decide) hP hD
                                      refine W.widen (k := 11377) (n := 68650) (by omega) (by omega) ?_
                                      exact EX194_367 o_189 r__174 ad_188 had_188 _ _ hw hP hD hS _ (lv_sub hl [] rfl)
                                  refine lv_icmp_ge (tgt := 354) hx hb dL_isJob_343 (by decide) (fun c_192 => ?_) (fun c_192 => ?_)
                                  · have hw := hw.1 c_192
                                    refine W.widen (k := (kb194 + 11)) (n := (nb194 + 66)) (by omega) (by omega) ?_
                                    exact JN354 o_181 ad_180 had_180 _ _ hw hP hD hS _ (lv_sub hl [4, 5, 6, 7, 8, 9, 10, 11, 1, 12, 0, 13, 14, 2] rfl)
                                  · have hw := hw.2 c_192
                                    refine lv_aload_n hx hb dL_isJob_346 rfl (lv_at hl 4 rfl) ?_
                                    refine lv_iconst (v := 1) hx hb dL_isJob_347 (by decide) ?_
                                    obtain ⟨hPs, hDs⟩ := seg_call (segs := [[(a_r_, .inl (g 0, n_r_, .inl r__174))], [(a_q_10, .inl (g 0, n_11, .inl q_12))], offS ad_180 tp_p_ hd_p_ tf_p_ cf_p_ g o_181]) [[(a_r_, .inl (g 0, n_r_, .inl r__174))], [(a_q_10, .inl (g 0, n_11, .inl q_12))]] [offS ad_180 tp_p_ hd_p_ tf_p_ cf_p_ g o_181] 3 [0, 1, 2] rfl rfl (by decide) hP hD
                                    have hPc : va_P (dC, dI) vwCl (offS ad_180 tp_p_ hd_p_ tf_p_ cf_p_ g o_181) H_179 := P_r hPs
                                    have hDc : va_D A (offS ad_180 tp_p_ hd_p_ tf_p_ cf_p_ g o_181) := D_r hDs
                                    have hFc : ∀ q, va_A (offS ad_180 tp_p_ hd_p_ tf_p_ cf_p_ g o_181) H_179.size q → A q := A_all hDc hA hS.1
                                    refine vx_calli (vx_runV (As := [.int 1]) (rest := []) ⟨hx, hb, hml, hown, hts⟩ (p_job l hlf dC dI g tp_p_ hd_p_ tf_p_ cf_p_ htf_p_ hcf_p_ ad_180 t_p_ had_180 o_181 1 (hw := hw) (sz := H_179.size)) (cwV 1 hts (gqV aw_4_199 aw_4_200 aw_4_201 aw_1_1 aw_4_202) rfl rfl rfl (by decide +kernel) ⟨Nat.le_of_ble_eq_true rfl, Nat.le_of_ble_eq_true rfl⟩) ⟨PG_blind, off_recv had_180 hK hPc, PG_call hK hG hS hPc hDc hFc⟩ rfl rfl hl.1 rfl (lv_room (Nat.le_of_ble_eq_true rfl)) dL_isJob_348 ⟨by rw [hrc]; omega, by rw [hrs]; omega⟩) hS (fun q _ h => hFc q h) hFc (fun q _ h => hFc q h) (fun E ce q9 ux t H1 locs1 ht hvm hp9 hB9 hz hk hS9 hce hcv hcl => ?_) (fun r_193 u_193 t_193 H_193 L_193 ht_193 hvm_193 hw_193 hB_193 hz_193 hk_193 hS => ?_)
                                    · exact (hB9.1.1).elim
                                    obtain ⟨ad_194, o_195⟩ := u_193
                                    obtain ⟨hw, had_194⟩ := hw_193
                                    rw [ht_193] at hB_193
                                    obtain ⟨hP1, hD1⟩ := hB_193
                                    obtain ⟨hP, hD⟩ := join_r hPs hDs hk_193 hFc hP1 hD1
                                    obtain ⟨hP, hD⟩ := seg_join [[(a_r_, .inl (g 0, n_r_, .inl r__174))], [(a_q_10, .inl (g 0, n_11, .inl q_12))]] [offS ad_194 tp_p_ hd_p_ tf_p_ cf_p_ g o_195] [[(a_r_, .inl (g 0, n_r_, .inl r__174))], [(a_q_10, .inl (g 0, n_11, .inl q_12))], offS ad_194 tp_p_ hd_p_ tf_p_ cf_p_ g o_195] 3 [0, 1, 2] rfl rfl (by decide) hP hD
                                    have hP : va_P (dC, dI) vwCl ([(a_r_, .inl (g 0, n_r_, .inl r__174)), (a_q_10, .inl (g 0, n_11, .inl q_12))] ++ (offS ad_194 tp_p_ hd_p_ tf_p_ cf_p_ g o_195)) H_193 := hP
                                    have hD : va_D A ([(a_r_, .inl (g 0, n_r_, .inl r__174)), (a_q_10, .inl (g 0, n_11, .inl q_12))] ++ (offS ad_194 tp_p_ hd_p_ tf_p_ cf_p_ g o_195)) := hD
                                    refine W.widen (k := (kb194 + 11)) (n := (nb194 + 66)) (by omega) (by omega) ?_
                                    refine lv_if_eq (tgt := 367) hx hb dL_isJob_351 (by decide) (fun c_196 => ?_) (fun c_196 => ?_)
                                    · have hw := hw.1 c_196
                                      obtain ⟨hP, hD⟩ := seg_sub (segs := [[(a_r_, .inl (g 0, n_r_, .inl r__174))], [(a_q_10, .inl (g 0, n_11, .inl q_12))], offS ad_194 tp_p_ hd_p_ tf_p_ cf_p_ g o_195]) [[(a_r_, .inl (g 0, n_r_, .inl r__174))], offS ad_194 tp_p_ hd_p_ tf_p_ cf_p_ g o_195] [[(a_q_10, .inl (g 0, n_11, .inl q_12))]] 3 [0, 2, 1] rfl rfl (by decide) hP hD
                                      refine W.widen (k := 11377) (n := 68650) (by omega) (by omega) ?_
                                      exact EX194_367 o_195 r__174 ad_194 had_194 _ _ hw hP hD hS _ (lv_sub hl [] rfl)
                                    · have hw := hw.2 c_196
                                      refine W.widen (k := (kb194 + 11)) (n := (nb194 + 66)) (by omega) (by omega) ?_
                                      exact JN354 o_195 ad_194 had_194 _ _ hw hP hD hS _ (lv_sub hl [4, 5, 6, 7, 8, 9, 10, 11, 1, 12, 0, 13, 14, 2] rfl)
                            refine lv_if_ne (tgt := 295) hx hb dL_isJob_223 (by decide) (fun c_197 => ?_) (fun c_197 => ?_)
                            · have hw := hw.2 c_197
                              refine W.widen (k := (kb194 + 4)) (n := (nb194 + 24)) (by omega) (by omega) ?_
                              exact JN295  _ _ hw hP hD hS _ (lv_sub hl [1, 2, 3, 4, 5, 6, 7, 8, 9, 10, 11, 12] rfl)
                            · have hw := hw.1 c_197
                              refine lv_iload hx hb dL_isJob_226 (lv_at hl 11 rfl) ?_
                              refine lv_iconst (v := 5) hx hb dL_isJob_228 (by decide) ?_
                              refine lv_icmp_ge (tgt := 295) hx hb dL_isJob_229 (by decide) (fun c_198 => ?_) (fun c_198 => ?_)
                              · have hw := hw.1 c_198
                                refine W.widen (k := (kb194 + 4)) (n := (nb194 + 24)) (by omega) (by omega) ?_
                                exact JN295  _ _ hw hP hD hS _ (lv_sub hl [1, 2, 3, 4, 5, 6, 7, 8, 9, 10, 11, 12] rfl)
                              · have hw := hw.2 c_198
                                refine lv_aload_n hx hb dL_isJob_232 rfl (lv_at hl 1 rfl) ?_
                                refine lv_iconst (v := 4) hx hb dL_isJob_233 (by decide) ?_
                                obtain ⟨hPs, hDs⟩ := seg_call (segs := [[(a_r_, .inl (g 0, n_r_, .inl r__153))], [(a_q_10, .inl (g 0, n_11, .inl q_12))], offS ad_150 tp_p_ hd_p_ tf_p_ cf_p_ g o_151]) [[(a_r_, .inl (g 0, n_r_, .inl r__153))], [(a_q_10, .inl (g 0, n_11, .inl q_12))]] [offS ad_150 tp_p_ hd_p_ tf_p_ cf_p_ g o_151] 3 [0, 1, 2] rfl rfl (by decide) hP hD
                                have hPc : va_P (dC, dI) vwCl (offS ad_150 tp_p_ hd_p_ tf_p_ cf_p_ g o_151) H_152 := P_r hPs
                                have hDc : va_D A (offS ad_150 tp_p_ hd_p_ tf_p_ cf_p_ g o_151) := D_r hDs
                                have hFc : ∀ q, va_A (offS ad_150 tp_p_ hd_p_ tf_p_ cf_p_ g o_151) H_152.size q → A q := A_all hDc hA hS.1
                                refine vx_calli (vx_runV (As := [.int 4]) (rest := []) ⟨hx, hb, hml, hown, hts⟩ (p_job l hlf dC dI g tp_p_ hd_p_ tf_p_ cf_p_ htf_p_ hcf_p_ ad_150 t_p_ had_150 o_151 4 (hw := hw) (sz := H_152.size)) (cwV 1 hts (gqV aw_4_199 aw_4_200 aw_4_201 aw_1_1 aw_4_202) rfl rfl rfl (by decide +kernel) ⟨Nat.le_of_ble_eq_true rfl, Nat.le_of_ble_eq_true rfl⟩) ⟨PG_blind, off_recv had_150 hK hPc, PG_call hK hG hS hPc hDc hFc⟩ rfl rfl hl.1 rfl (lv_room (Nat.le_of_ble_eq_true rfl)) dL_isJob_234 ⟨by rw [hrc]; omega, by rw [hrs]; omega⟩) hS (fun q _ h => hFc q h) hFc (fun q _ h => hFc q h) (fun E ce q9 ux t H1 locs1 ht hvm hp9 hB9 hz hk hS9 hce hcv hcl => ?_) (fun r_199 u_199 t_199 H_199 L_199 ht_199 hvm_199 hw_199 hB_199 hz_199 hk_199 hS => ?_)
                                · exact (hB9.1.1).elim
                                obtain ⟨ad_200, o_201⟩ := u_199
                                obtain ⟨hw, had_200⟩ := hw_199
                                rw [ht_199] at hB_199
                                obtain ⟨hP1, hD1⟩ := hB_199
                                obtain ⟨hP, hD⟩ := join_r hPs hDs hk_199 hFc hP1 hD1
                                obtain ⟨hP, hD⟩ := seg_join [[(a_r_, .inl (g 0, n_r_, .inl r__153))], [(a_q_10, .inl (g 0, n_11, .inl q_12))]] [offS ad_200 tp_p_ hd_p_ tf_p_ cf_p_ g o_201] [[(a_r_, .inl (g 0, n_r_, .inl r__153))], [(a_q_10, .inl (g 0, n_11, .inl q_12))], offS ad_200 tp_p_ hd_p_ tf_p_ cf_p_ g o_201] 3 [0, 1, 2] rfl rfl (by decide) hP hD
                                have hP : va_P (dC, dI) vwCl ([(a_r_, .inl (g 0, n_r_, .inl r__153)), (a_q_10, .inl (g 0, n_11, .inl q_12))] ++ (offS ad_200 tp_p_ hd_p_ tf_p_ cf_p_ g o_201)) H_199 := hP
                                have hD : va_D A ([(a_r_, .inl (g 0, n_r_, .inl r__153)), (a_q_10, .inl (g 0, n_11, .inl q_12))] ++ (offS ad_200 tp_p_ hd_p_ tf_p_ cf_p_ g o_201)) := hD
                                refine W.widen (k := (kb194 + 6)) (n := (nb194 + 36)) (by omega) (by omega) ?_
                                refine lv_istore (lv' := [(16, .int r_199), (15, .int r_149), (0, .ref t_p_), (1, .ref a_r_), (3, .int to_), (4, .int order), (5, .ref a_q_10), (7, .int r_16), (8, .int x_22), (9, .int r_23), (11, .int v11_75), (12, .int v12_77), (13, .int v13_76), (14, .int v14_74)]) hx hb dL_isJob_237 hl (by decide) rfl (fun ls hl => ?_)
                                refine lv_aload_n hx hb dL_isJob_239 rfl (lv_at hl 2 rfl) ?_
                                obtain ⟨hPs, hDs⟩ := seg_call (segs := [[(a_r_, .inl (g 0, n_r_, .inl r__153))], [(a_q_10, .inl (g 0, n_11, .inl q_12))], offS ad_200 tp_p_ hd_p_ tf_p_ cf_p_ g o_201]) [[(a_r_, .inl (g 0, n_r_, .inl r__153))], [(a_q_10, .inl (g 0, n_11, .inl q_12))]] [offS ad_200 tp_p_ hd_p_ tf_p_ cf_p_ g o_201] 3 [0, 1, 2] rfl rfl (by decide) hP hD
                                have hPc : va_P (dC, dI) vwCl (offS ad_200 tp_p_ hd_p_ tf_p_ cf_p_ g o_201) H_199 := P_r hPs
                                have hDc : va_D A (offS ad_200 tp_p_ hd_p_ tf_p_ cf_p_ g o_201) := D_r hDs
                                have hFc : ∀ q, va_A (offS ad_200 tp_p_ hd_p_ tf_p_ cf_p_ g o_201) H_199.size q → A q := A_all hDc hA hS.1
                                refine vx_calli (vx_runV (As := []) (rest := []) ⟨hx, hb, hml, hown, hts⟩ (p_tear l hlf dC dI g tp_p_ hd_p_ tf_p_ cf_p_ htf_p_ hcf_p_ ad_200 t_p_ had_200 o_201 (hw := hw) (sz := H_199.size)) (cwV 0 hts (gqV aw_4_191 aw_4_192 aw_4_193 aw_1_1 aw_4_194) rfl rfl rfl (by decide +kernel) ⟨Nat.le_of_ble_eq_true rfl, Nat.le_of_ble_eq_true rfl⟩) ⟨PG_blind, off_recv had_200 hK hPc, PG_call hK hG hS hPc hDc hFc⟩ rfl rfl hl.1 rfl (lv_room (Nat.le_of_ble_eq_true rfl)) dL_isJob_240 ⟨by rw [hrc]; omega, by rw [hrs]; omega⟩) hS (fun q _ h => hFc q h) hFc (fun q _ h => hFc q h) (fun E ce q9 ux t H1 locs1 ht hvm hp9 hB9 hz hk hS9 hce hcv hcl => ?_) (fun r_202 u_202 t_202 H_202 L_202 ht_202 hvm_202 hw_202 hB_202 hz_202 hk_202 hS => ?_)
                                · exact (hB9.1.1).elim
                                obtain ⟨ad_203, o_204⟩ := u_202
                                obtain ⟨hw, had_203⟩ := hw_202
                                rw [ht_202] at hB_202
                                obtain ⟨hP1, hD1⟩ := hB_202
                                obtain ⟨hP, hD⟩ := join_r hPs hDs hk_202 hFc hP1 hD1
                                obtain ⟨hP, hD⟩ := seg_join [[(a_r_, .inl (g 0, n_r_, .inl r__153))], [(a_q_10, .inl (g 0, n_11, .inl q_12))]] [offS ad_203 tp_p_ hd_p_ tf_p_ cf_p_ g o_204] [[(a_r_, .inl (g 0, n_r_, .inl r__153))], [(a_q_10, .inl (g 0, n_11, .inl q_12))], offS ad_203 tp_p_ hd_p_ tf_p_ cf_p_ g o_204] 3 [0, 1, 2] rfl rfl (by decide) hP hD
                                have hP : va_P (dC, dI) vwCl ([(a_r_, .inl (g 0, n_r_, .inl r__153)), (a_q_10, .inl (g 0, n_11, .inl q_12))] ++ (offS ad_203 tp_p_ hd_p_ tf_p_ cf_p_ g o_204)) H_202 := hP
                                have hD : va_D A ([(a_r_, .inl (g 0, n_r_, .inl r__153)), (a_q_10, .inl (g 0, n_11, .inl q_12))] ++ (offS ad_203 tp_p_ hd_p_ tf_p_ cf_p_ g o_204)) := hD
                                refine W.widen (k := (kb194 + 7)) (n := (nb194 + 42)) (by omega) (by omega) ?_
                                refine lv_istore (lv' := [(17, .int r_202), (16, .int r_199), (15, .int r_149), (0, .ref t_p_), (1, .ref a_r_), (3, .int to_), (4, .int order), (5, .ref a_q_10), (7, .int r_16), (8, .int x_22), (9, .int r_23), (11, .int v11_75), (12, .int v12_77), (13, .int v13_76), (14, .int v14_74)]) hx hb dL_isJob_243 hl (by decide) rfl (fun ls hl => ?_)
                                refine lv_iload hx hb dL_isJob_245 (lv_at hl 11 rfl) ?_
                                refine lv_iload hx hb dL_isJob_247 (lv_at hl 0 rfl) ?_
                                refine lv_iadd hx hb dL_isJob_249 ?_
                                refine lv_topi (fun x_205 ex_205 => ?_)
                                have hw := hw x_205 ex_205
                                refine lv_istore (lv' := [(11, .int x_205), (17, .int r_202), (16, .int r_199), (15, .int r_149), (0, .ref t_p_), (1, .ref a_r_), (3, .int to_), (4, .int order), (5, .ref a_q_10), (7, .int r_16), (8, .int x_22), (9, .int r_23), (12, .int v12_77), (13, .int v13_76), (14, .int v14_74)]) hx hb dL_isJob_250 hl (by decide) rfl (fun ls hl => ?_)
                                obtain ⟨x_206, ex_206⟩ : ∃ y : Int32, y = v13_76 + 1 := ⟨_, rfl⟩
                                have hw := hw x_206 ex_206
                                refine lv_iinc (v := x_206) (lv' := [(13, .int x_206), (11, .int x_205), (17, .int r_202), (16, .int r_199), (15, .int r_149), (0, .ref t_p_), (1, .ref a_r_), (3, .int to_), (4, .int order), (5, .ref a_q_10), (7, .int r_16), (8, .int x_22), (9, .int r_23), (12, .int v12_77), (14, .int v14_74)]) hx hb dL_isJob_252 hl (k := 13) rfl (by rw [ex_206]; rfl) (by decide) rfl (fun ls hl => ?_)
                                refine lv_iload hx hb dL_isJob_255 (lv_at hl 2 rfl) ?_
                                refine lv_if_lt (tgt := 287) hx hb dL_isJob_257 (by decide) (fun c_207 => ?_) (fun c_207 => ?_)
                                · have hw := hw.1 c_207
                                  obtain ⟨hP, hD⟩ := seg_sub (segs := [[(a_r_, .inl (g 0, n_r_, .inl r__153))], [(a_q_10, .inl (g 0, n_11, .inl q_12))], offS ad_203 tp_p_ hd_p_ tf_p_ cf_p_ g o_204]) [[(a_r_, .inl (g 0, n_r_, .inl r__153))], offS ad_203 tp_p_ hd_p_ tf_p_ cf_p_ g o_204] [[(a_q_10, .inl (g 0, n_11, .inl q_12))]] 3 [0, 2, 1] rfl rfl (by decide) hP hD
                                  refine W.widen (k := 11377) (n := 68650) (by omega) (by omega) ?_
                                  exact EX194_287 o_204 r__153 ad_203 had_203 _ _ hw hP hD hS _ (lv_sub hl [] rfl)
                                · have hw := hw.2 c_207
                                  refine lv_aload_n hx hb dL_isJob_260 rfl (lv_at hl 5 rfl) ?_
                                  refine lv_iconst (v := 3) hx hb dL_isJob_261 (by decide) ?_
                                  obtain ⟨hPs, hDs⟩ := seg_call (segs := [[(a_r_, .inl (g 0, n_r_, .inl r__153))], [(a_q_10, .inl (g 0, n_11, .inl q_12))], offS ad_203 tp_p_ hd_p_ tf_p_ cf_p_ g o_204]) [[(a_r_, .inl (g 0, n_r_, .inl r__153))], [(a_q_10, .inl (g 0, n_11, .inl q_12))]] [offS ad_203 tp_p_ hd_p_ tf_p_ cf_p_ g o_204] 3 [0, 1, 2] rfl rfl (by decide) hP hD
                                  have hPc : va_P (dC, dI) vwCl (offS ad_203 tp_p_ hd_p_ tf_p_ cf_p_ g o_204) H_202 := P_r hPs
                                  have hDc : va_D A (offS ad_203 tp_p_ hd_p_ tf_p_ cf_p_ g o_204) := D_r hDs
                                  have hFc : ∀ q, va_A (offS ad_203 tp_p_ hd_p_ tf_p_ cf_p_ g o_204) H_202.size q → A q := A_all hDc hA hS.1
                                  refine vx_calli (vx_runV (As := [.int 3]) (rest := []) ⟨hx, hb, hml, hown, hts⟩ (p_job l hlf dC dI g tp_p_ hd_p_ tf_p_ cf_p_ htf_p_ hcf_p_ ad_203 t_p_ had_203 o_204 3 (hw := hw) (sz := H_202.size)) (cwV 1 hts (gqV aw_4_199 aw_4_200 aw_4_201 aw_1_1 aw_4_202) rfl rfl rfl (by decide +kernel) ⟨Nat.le_of_ble_eq_true rfl, Nat.le_of_ble_eq_true rfl⟩) ⟨PG_blind, off_recv had_203 hK hPc, PG_call hK hG hS hPc hDc hFc⟩ rfl rfl hl.1 rfl (lv_room (Nat.le_of_ble_eq_true rfl)) dL_isJob_262 ⟨by rw [hrc]; omega, by rw [hrs]; omega⟩) hS (fun q _ h => hFc q h) hFc (fun q _ h => hFc q h) (fun E ce q9 ux t H1 locs1 ht hvm hp9 hB9 hz hk hS9 hce hcv hcl => ?_) (fun r_208 u_208 t_208 H_208 L_208 ht_208 hvm_208 hw_208 hB_208 hz_208 hk_208 hS => ?_)
                                  · exact (hB9.1.1).elim
                                  obtain ⟨ad_209, o_210⟩ := u_208
                                  obtain ⟨hw, had_209⟩ := hw_208
                                  rw [ht_208] at hB_208
                                  obtain ⟨hP1, hD1⟩ := hB_208
                                  obtain ⟨hP, hD⟩ := join_r hPs hDs hk_208 hFc hP1 hD1
                                  obtain ⟨hP, hD⟩ := seg_join [[(a_r_, .inl (g 0, n_r_, .inl r__153))], [(a_q_10, .inl (g 0, n_11, .inl q_12))]] [offS ad_209 tp_p_ hd_p_ tf_p_ cf_p_ g o_210] [[(a_r_, .inl (g 0, n_r_, .inl r__153))], [(a_q_10, .inl (g 0, n_11, .inl q_12))], offS ad_209 tp_p_ hd_p_ tf_p_ cf_p_ g o_210] 3 [0, 1, 2] rfl rfl (by decide) hP hD
                                  have hP : va_P (dC, dI) vwCl ([(a_r_, .inl (g 0, n_r_, .inl r__153)), (a_q_10, .inl (g 0, n_11, .inl q_12))] ++ (offS ad_209 tp_p_ hd_p_ tf_p_ cf_p_ g o_210)) H_208 := hP
                                  have hD : va_D A ([(a_r_, .inl (g 0, n_r_, .inl r__153)), (a_q_10, .inl (g 0, n_11, .inl q_12))] ++ (offS ad_209 tp_p_ hd_p_ tf_p_ cf_p_ g o_210)) := hD
                                  refine W.widen (k := (kb194 + 9)) (n := (nb194 + 54)) (by omega) (by omega) ?_
                                  refine lv_iload hx hb dL_isJob_265 (lv_at hl 4 rfl) ?_
                                  refine lv_icmp_ne (tgt := 287) hx hb dL_isJob_267 (by decide) (fun c_211 => ?_) (fun c_211 => ?_)
                                  · have hw := hw.2 c_211
                                    obtain ⟨hP, hD⟩ := seg_sub (segs := [[(a_r_, .inl (g 0, n_r_, .inl r__153))], [(a_q_10, .inl (g 0, n_11, .inl q_12))], offS ad_209 tp_p_ hd_p_ tf_p_ cf_p_ g o_210]) [[(a_r_, .inl (g 0, n_r_, .inl r__153))], offS ad_209 tp_p_ hd_p_ tf_p_ cf_p_ g o_210] [[(a_q_10, .inl (g 0, n_11, .inl q_12))]] 3 [0, 2, 1] rfl rfl (by decide) hP hD
                                    refine W.widen (k := 11377) (n := 68650) (by omega) (by omega) ?_
                                    exact EX194_287 o_210 r__153 ad_209 had_209 _ _ hw hP hD hS _ (lv_sub hl [] rfl)
                                  · have hw := hw.1 c_211
                                    refine lv_aload_n hx hb dL_isJob_270 rfl (lv_at hl 5 rfl) ?_
                                    refine lv_iconst (v := 4) hx hb dL_isJob_271 (by decide) ?_
                                    obtain ⟨hPs, hDs⟩ := seg_call (segs := [[(a_r_, .inl (g 0, n_r_, .inl r__153))], [(a_q_10, .inl (g 0, n_11, .inl q_12))], offS ad_209 tp_p_ hd_p_ tf_p_ cf_p_ g o_210]) [[(a_r_, .inl (g 0, n_r_, .inl r__153))], [(a_q_10, .inl (g 0, n_11, .inl q_12))]] [offS ad_209 tp_p_ hd_p_ tf_p_ cf_p_ g o_210] 3 [0, 1, 2] rfl rfl (by decide) hP hD
                                    have hPc : va_P (dC, dI) vwCl (offS ad_209 tp_p_ hd_p_ tf_p_ cf_p_ g o_210) H_208 := P_r hPs
                                    have hDc : va_D A (offS ad_209 tp_p_ hd_p_ tf_p_ cf_p_ g o_210) := D_r hDs
                                    have hFc : ∀ q, va_A (offS ad_209 tp_p_ hd_p_ tf_p_ cf_p_ g o_210) H_208.size q → A q := A_all hDc hA hS.1
                                    refine vx_calli (vx_runV (As := [.int 4]) (rest := []) ⟨hx, hb, hml, hown, hts⟩ (p_job l hlf dC dI g tp_p_ hd_p_ tf_p_ cf_p_ htf_p_ hcf_p_ ad_209 t_p_ had_209 o_210 4 (hw := hw) (sz := H_208.size)) (cwV 1 hts (gqV aw_4_199 aw_4_200 aw_4_201 aw_1_1 aw_4_202) rfl rfl rfl (by decide +kernel) ⟨Nat.le_of_ble_eq_true rfl, Nat.le_of_ble_eq_true rfl⟩) ⟨PG_blind, off_recv had_209 hK hPc, PG_call hK hG hS hPc hDc hFc⟩ rfl rfl hl.1 rfl (lv_room (Nat.le_of_ble_eq_true rfl)) dL_isJob_272 ⟨by rw [hrc]; omega, by rw [hrs]; omega⟩) hS (fun q _ h => hFc q h) hFc (fun q _ h => hFc q h) (fun E ce q9 ux t H1 locs1 ht hvm hp9 hB9 hz hk hS9 hce hcv hcl => ?_) (fun r_212 u_212 t_212 H_212 L_212 ht_212 hvm_212 hw_212 hB_212 hz_212 hk_212 hS => ?_)
                                    · exact (hB9.1.1).elim
                                    obtain ⟨ad_213, o_214⟩ := u_212
                                    obtain ⟨hw, had_213⟩ := hw_212
                                    rw [ht_212] at hB_212
                                    obtain ⟨hP1, hD1⟩ := hB_212
                                    obtain ⟨hP, hD⟩ := join_r hPs hDs hk_212 hFc hP1 hD1
                                    obtain ⟨hP, hD⟩ := seg_join [[(a_r_, .inl (g 0, n_r_, .inl r__153))], [(a_q_10, .inl (g 0, n_11, .inl q_12))]] [offS ad_213 tp_p_ hd_p_ tf_p_ cf_p_ g o_214] [[(a_r_, .inl (g 0, n_r_, .inl r__153))], [(a_q_10, .inl (g 0, n_11, .inl q_12))], offS ad_213 tp_p_ hd_p_ tf_p_ cf_p_ g o_214] 3 [0, 1, 2] rfl rfl (by decide) hP hD
                                    have hP : va_P (dC, dI) vwCl ([(a_r_, .inl (g 0, n_r_, .inl r__153)), (a_q_10, .inl (g 0, n_11, .inl q_12))] ++ (offS ad_213 tp_p_ hd_p_ tf_p_ cf_p_ g o_214)) H_212 := hP
                                    have hD : va_D A ([(a_r_, .inl (g 0, n_r_, .inl r__153)), (a_q_10, .inl (g 0, n_11, .inl q_12))] ++ (offS ad_213 tp_p_ hd_p_ tf_p_ cf_p_ g o_214)) := hD
                                    refine W.widen (k := (kb194 + 11)) (n := (nb194 + 66)) (by omega) (by omega) ?_
                                    refine lv_iload hx hb dL_isJob_275 (lv_at hl 3 rfl) ?_
                                    refine lv_icmp_ne (tgt := 287) hx hb dL_isJob_277 (by decide) (fun c_215 => ?_) (fun c_215 => ?_)
                                    · have hw := hw.2 c_215
                                      obtain ⟨hP, hD⟩ := seg_sub (segs := [[(a_r_, .inl (g 0, n_r_, .inl r__153))], [(a_q_10, .inl (g 0, n_11, .inl q_12))], offS ad_213 tp_p_ hd_p_ tf_p_ cf_p_ g o_214]) [[(a_r_, .inl (g 0, n_r_, .inl r__153))], offS ad_213 tp_p_ hd_p_ tf_p_ cf_p_ g o_214] [[(a_q_10, .inl (g 0, n_11, .inl q_12))]] 3 [0, 2, 1] rfl rfl (by decide) hP hD
                                      refine W.widen (k := 11377) (n := 68650) (by omega) (by omega) ?_
                                      exact EX194_287 o_214 r__153 ad_213 had_213 _ _ hw hP hD hS _ (lv_sub hl [] rfl)
                                    · have hw := hw.1 c_215
                                      refine lv_aload_n hx hb dL_isJob_280 rfl (lv_at hl 5 rfl) ?_
                                      obtain ⟨hPs, hDs⟩ := seg_call (segs := [[(a_r_, .inl (g 0, n_r_, .inl r__153))], [(a_q_10, .inl (g 0, n_11, .inl q_12))], offS ad_213 tp_p_ hd_p_ tf_p_ cf_p_ g o_214]) [[(a_r_, .inl (g 0, n_r_, .inl r__153))], [(a_q_10, .inl (g 0, n_11, .inl q_12))]] [offS ad_213 tp_p_ hd_p_ tf_p_ cf_p_ g o_214] 3 [0, 1, 2] rfl rfl (by decide) hP hD
                                      have hPc : va_P (dC, dI) vwCl (offS ad_213 tp_p_ hd_p_ tf_p_ cf_p_ g o_214) H_212 := P_r hPs
                                      have hDc : va_D A (offS ad_213 tp_p_ hd_p_ tf_p_ cf_p_ g o_214) := D_r hDs
                                      have hFc : ∀ q, va_A (offS ad_213 tp_p_ hd_p_ tf_p_ cf_p_ g o_214) H_212.size q → A q := A_all hDc hA hS.1
                                      refine vx_calli (vx_runV (As := []) (rest := []) ⟨hx, hb, hml, hown, hts⟩ (p_tear l hlf dC dI g tp_p_ hd_p_ tf_p_ cf_p_ htf_p_ hcf_p_ ad_213 t_p_ had_213 o_214 (hw := hw) (sz := H_212.size)) (cwV 0 hts (gqV aw_4_191 aw_4_192 aw_4_193 aw_1_1 aw_4_194) rfl rfl rfl (by decide +kernel) ⟨Nat.le_of_ble_eq_true rfl, Nat.le_of_ble_eq_true rfl⟩) ⟨PG_blind, off_recv had_213 hK hPc, PG_call hK hG hS hPc hDc hFc⟩ rfl rfl hl.1 rfl (lv_room (Nat.le_of_ble_eq_true rfl)) dL_isJob_281 ⟨by rw [hrc]; omega, by rw [hrs]; omega⟩) hS (fun q _ h => hFc q h) hFc (fun q _ h => hFc q h) (fun E ce q9 ux t H1 locs1 ht hvm hp9 hB9 hz hk hS9 hce hcv hcl => ?_) (fun r_216 u_216 t_216 H_216 L_216 ht_216 hvm_216 hw_216 hB_216 hz_216 hk_216 hS => ?_)
                                      · exact (hB9.1.1).elim
                                      obtain ⟨ad_217, o_218⟩ := u_216
                                      obtain ⟨hw, had_217⟩ := hw_216
                                      rw [ht_216] at hB_216
                                      obtain ⟨hP1, hD1⟩ := hB_216
                                      obtain ⟨hP, hD⟩ := join_r hPs hDs hk_216 hFc hP1 hD1
                                      obtain ⟨hP, hD⟩ := seg_join [[(a_r_, .inl (g 0, n_r_, .inl r__153))], [(a_q_10, .inl (g 0, n_11, .inl q_12))]] [offS ad_217 tp_p_ hd_p_ tf_p_ cf_p_ g o_218] [[(a_r_, .inl (g 0, n_r_, .inl r__153))], [(a_q_10, .inl (g 0, n_11, .inl q_12))], offS ad_217 tp_p_ hd_p_ tf_p_ cf_p_ g o_218] 3 [0, 1, 2] rfl rfl (by decide) hP hD
                                      have hP : va_P (dC, dI) vwCl ([(a_r_, .inl (g 0, n_r_, .inl r__153)), (a_q_10, .inl (g 0, n_11, .inl q_12))] ++ (offS ad_217 tp_p_ hd_p_ tf_p_ cf_p_ g o_218)) H_216 := hP
                                      have hD : va_D A ([(a_r_, .inl (g 0, n_r_, .inl r__153)), (a_q_10, .inl (g 0, n_11, .inl q_12))] ++ (offS ad_217 tp_p_ hd_p_ tf_p_ cf_p_ g o_218)) := hD
                                      refine W.widen (k := (kb194 + 12)) (n := (nb194 + 72)) (by omega) (by omega) ?_
                                      refine lv_if_eq (tgt := 289) hx hb dL_isJob_284 (by decide) (fun c_219 => ?_) (fun c_219 => ?_)
                                      · have hw := hw.1 c_219
                                        obtain ⟨x_220, ex_220⟩ : ∃ y : Int32, y = x_206 + 1 := ⟨_, rfl⟩
                                        have hw := hw x_220 ex_220
                                        refine lv_iinc (v := x_220) (lv' := [(13, .int x_220), (11, .int x_205), (17, .int r_202), (16, .int r_199), (15, .int r_149), (0, .ref t_p_), (1, .ref a_r_), (3, .int to_), (4, .int order), (5, .ref a_q_10), (7, .int r_16), (8, .int x_22), (9, .int r_23), (12, .int v12_77), (14, .int v14_74)]) hx hb dL_isJob_289 hl (k := 0) rfl (by rw [ex_220]; rfl) (by decide) rfl (fun ls hl => ?_)
                                        refine lv_goto (tgt := 369) hx hb dL_isJob_292 (by decide) ?_
                                        refine W.widen (k := (kb194 + 13)) (n := (nb194 + 78)) (by omega) (by omega) ?_
                                        exact JN369 x_205 v12_77 x_220 r__153 o_218 ad_217 had_217 _ _ hw hP hD hS _ (lv_sub hl [5, 6, 7, 8, 9, 10, 11, 12, 1, 13, 0, 14] rfl)
                                      · have hw := hw.2 c_219
                                        obtain ⟨hP, hD⟩ := seg_sub (segs := [[(a_r_, .inl (g 0, n_r_, .inl r__153))], [(a_q_10, .inl (g 0, n_11, .inl q_12))], offS ad_217 tp_p_ hd_p_ tf_p_ cf_p_ g o_218]) [[(a_r_, .inl (g 0, n_r_, .inl r__153))], offS ad_217 tp_p_ hd_p_ tf_p_ cf_p_ g o_218] [[(a_q_10, .inl (g 0, n_11, .inl q_12))]] 3 [0, 2, 1] rfl rfl (by decide) hP hD
                                        refine W.widen (k := 11377) (n := 68650) (by omega) (by omega) ?_
                                        exact EX194_287 o_218 r__153 ad_217 had_217 _ _ hw hP hD hS _ (lv_sub hl [] rfl)
                    obtain ⟨n194, hle194, hw⟩ := hw
                    refine W.widen (k := (11377 - n194 * 19)) (n := (68650 - n194 * 114)) (by omega) (by omega) ?_
                    exact LOOP194 n194 hle194 o_71 r__67 0 0 0 0 ad_70 had_70 _ _ hw hP hD hS _ (lv_sub hl [5, 6, 7, 8, 9, 10, 11, 12, 3, 2, 1, 0] rfl)
                  refine lv_icmp_ne (tgt := 134) hx hb dL_isJob_127 (by decide) (fun c_221 => ?_) (fun c_221 => ?_)
                  · have hw := hw.2 c_221
                    refine lv_aload_n hx hb dL_isJob_134 rfl (lv_at hl 0 rfl) ?_
                    refine lv_iload_n hx hb dL_isJob_135 rfl (lv_at hl 2 rfl) ?_
                    obtain ⟨hPs, hDs⟩ := seg_call (segs := [[(a_r_, .inl (g 0, n_r_, .inl r_))], [(a_q_10, .inl (g 0, n_11, .inl q_12))], offS ad_47 tp_p_ hd_p_ tf_p_ cf_p_ g o_48]) [[(a_r_, .inl (g 0, n_r_, .inl r_))], [(a_q_10, .inl (g 0, n_11, .inl q_12))]] [offS ad_47 tp_p_ hd_p_ tf_p_ cf_p_ g o_48] 3 [0, 1, 2] rfl rfl (by decide) hP hD
                    have hPc : va_P (dC, dI) vwCl (offS ad_47 tp_p_ hd_p_ tf_p_ cf_p_ g o_48) H := P_r hPs
                    have hDc : va_D A (offS ad_47 tp_p_ hd_p_ tf_p_ cf_p_ g o_48) := D_r hDs
                    have hFc : ∀ q, va_A (offS ad_47 tp_p_ hd_p_ tf_p_ cf_p_ g o_48) H.size q → A q := A_all hDc hA hS.1
                    refine vx_calli (vx_runV (As := [.int tape]) (rest := []) ⟨hx, hb, hml, hown, hts⟩ (p_clear l hlf dC dI g tp_p_ hd_p_ tf_p_ cf_p_ htf_p_ hcf_p_ ad_47 t_p_ had_47 o_48 tape (hw := hw) (sz := H.size)) (cwV 1 hts (gqV aw_2_225 aw_2_226 aw_2_227 aw_1_1 aw_2_228) rfl rfl rfl (by decide +kernel) ⟨Nat.le_of_ble_eq_true rfl, Nat.le_of_ble_eq_true rfl⟩) ⟨PG_blind, off_recv had_47 hK hPc, PG_call hK hG hS hPc hDc hFc⟩ rfl rfl hl.1 rfl (lv_room (Nat.le_of_ble_eq_true rfl)) dL_isJob_136 ⟨by rw [hrc]; omega, by rw [hrs]; omega⟩) hS (fun q _ h => hFc q h) hFc (fun q _ h => hFc q h) (fun E ce q9 ux t H1 locs1 ht hvm hp9 hB9 hz hk hS9 hce hcv hcl => ?_) (fun r_222 u_222 t_222 H_222 L_222 ht_222 hvm_222 hw_222 hB_222 hz_222 hk_222 hS => ?_)
                    · exact (hB9.1.1).elim
                    obtain ⟨ad_223, o_224⟩ := u_222
                    obtain ⟨hw, had_223⟩ := hw_222
                    rw [ht_222] at hB_222
                    obtain ⟨hP1, hD1⟩ := hB_222
                    obtain ⟨hP, hD⟩ := join_r hPs hDs hk_222 hFc hP1 hD1
                    obtain ⟨hP, hD⟩ := seg_join [[(a_r_, .inl (g 0, n_r_, .inl r_))], [(a_q_10, .inl (g 0, n_11, .inl q_12))]] [offS ad_223 tp_p_ hd_p_ tf_p_ cf_p_ g o_224] [[(a_r_, .inl (g 0, n_r_, .inl r_))], [(a_q_10, .inl (g 0, n_11, .inl q_12))], offS ad_223 tp_p_ hd_p_ tf_p_ cf_p_ g o_224] 3 [0, 1, 2] rfl rfl (by decide) hP hD
                    have hP : va_P (dC, dI) vwCl ([(a_r_, .inl (g 0, n_r_, .inl r_)), (a_q_10, .inl (g 0, n_11, .inl q_12))] ++ (offS ad_223 tp_p_ hd_p_ tf_p_ cf_p_ g o_224)) H_222 := hP
                    have hD : va_D A ([(a_r_, .inl (g 0, n_r_, .inl r_)), (a_q_10, .inl (g 0, n_11, .inl q_12))] ++ (offS ad_223 tp_p_ hd_p_ tf_p_ cf_p_ g o_224)) := hD
                    refine W.widen (k := 3753) (n := 22906) (by omega) (by omega) ?_
                    refine W.widen (k := 3753) (n := 22906) (by omega) (by omega) ?_
                    exact JN139 r_222 o_224 ad_223 had_223 _ _ hw hP hD hS _ (lv_sub hl [0, 1, 3, 4, 5, 6, 7, 8] rfl)
                  · have hw := hw.1 c_221
                    refine lv_iconst (v := 0) hx hb dL_isJob_130 (by decide) ?_
                    refine lv_goto (tgt := 139) hx hb dL_isJob_131 (by decide) ?_
                    refine W.widen (k := 3753) (n := 22906) (by omega) (by omega) ?_
                    exact JN139 0 o_48 ad_47 had_47 _ _ hw hP hD hS _ (lv_sub hl [0, 1, 3, 4, 5, 6, 7, 8] rfl)
                · have hw := hw.2 c_51
                  refine lv_iconst (v := 0) hx hb dL_isJob_123 (by decide) ?_
                  refine W.widen (k := 11599) (n := 70176) (by omega) (by omega) ?_
                  subst hQM
                  obtain ⟨hP, hD⟩ := seg_sub (segs := [[(a_r_, .inl (g 0, n_r_, .inl r_))], [(a_q_10, .inl (g 0, n_11, .inl q_12))], offS ad_47 tp_p_ hd_p_ tf_p_ cf_p_ g o_48]) [[(a_r_, .inl (g 0, n_r_, .inl r_))], offS ad_47 tp_p_ hd_p_ tf_p_ cf_p_ g o_48] [[(a_q_10, .inl (g 0, n_11, .inl q_12))]] 3 [0, 2, 1] rfl rfl (by decide) hP hD
                  exact W.zret (v := 0) hx hb hr rfl (fun t ht hW => ⟨⟨_, (r_, ad_47, o_48, ()), rfl, ⟨false, rfl, ⟨hw, had_47⟩⟩, ⟨P_at ht hP, hD⟩⟩, hS.F ht⟩) hS.2.2 dL_isJob_124
              refine lv_icmp_ge (tgt := 119) hx hb dL_isJob_112 (by decide) (fun c_225 => ?_) (fun c_225 => ?_)
              · have hw := hw.1 c_225
                refine lv_iconst (v := 0) hx hb dL_isJob_119 (by decide) ?_
                refine W.widen (k := 3752) (n := 22900) (by omega) (by omega) ?_
                exact JN120 false _ _ hw hP hD hS _ (lv_sub hl [0, 1, 2, 3, 4, 5, 7, 8, 9] rfl)
              · have hw := hw.2 c_225
                refine lv_iconst (v := 1) hx hb dL_isJob_115 (by decide) ?_
                refine lv_goto (tgt := 120) hx hb dL_isJob_116 (by decide) ?_
                refine W.widen (k := 3752) (n := 22900) (by omega) (by omega) ?_
                exact JN120 true _ _ hw hP hD hS _ (lv_sub hl [0, 1, 2, 3, 4, 5, 7, 8, 9] rfl)
            refine lv_icmp_ne (tgt := 108) hx hb dL_isJob_101 (by decide) (fun c_226 => ?_) (fun c_226 => ?_)
            · have hw := hw.2 c_226
              refine lv_iconst (v := 0) hx hb dL_isJob_108 (by decide) ?_
              obtain ⟨hP, hD⟩ := seg_sub (segs := [[(a_r_, .inl (g 0, n_r_, .inl r_))], [(a_q_4, .inl (g 0, n_5, .inl q_6))], [(a_q_10, .inl (g 0, n_11, .inl q_12))], offS ad_47 tp_p_ hd_p_ tf_p_ cf_p_ g o_48]) [[(a_r_, .inl (g 0, n_r_, .inl r_))], [(a_q_10, .inl (g 0, n_11, .inl q_12))], offS ad_47 tp_p_ hd_p_ tf_p_ cf_p_ g o_48] [[(a_q_4, .inl (g 0, n_5, .inl q_6))]] 4 [0, 2, 3, 1] rfl rfl (by decide) hP hD
              refine W.widen (k := 3752) (n := 22900) (by omega) (by omega) ?_
              exact JN109 false _ _ hw hP hD hS _ (lv_sub hl [5, 6, 7, 8, 9, 4, 3, 2, 1, 0] rfl)
            · have hw := hw.1 c_226
              refine lv_iconst (v := 1) hx hb dL_isJob_104 (by decide) ?_
              refine lv_goto (tgt := 109) hx hb dL_isJob_105 (by decide) ?_
              obtain ⟨hP, hD⟩ := seg_sub (segs := [[(a_r_, .inl (g 0, n_r_, .inl r_))], [(a_q_4, .inl (g 0, n_5, .inl q_6))], [(a_q_10, .inl (g 0, n_11, .inl q_12))], offS ad_47 tp_p_ hd_p_ tf_p_ cf_p_ g o_48]) [[(a_r_, .inl (g 0, n_r_, .inl r_))], [(a_q_10, .inl (g 0, n_11, .inl q_12))], offS ad_47 tp_p_ hd_p_ tf_p_ cf_p_ g o_48] [[(a_q_4, .inl (g 0, n_5, .inl q_6))]] 4 [0, 2, 3, 1] rfl rfl (by decide) hP hD
              refine W.widen (k := 3752) (n := 22900) (by omega) (by omega) ?_
              exact JN109 true _ _ hw hP hD hS _ (lv_sub hl [5, 6, 7, 8, 9, 4, 3, 2, 1, 0] rfl)
theorem dL_isSort_0 : decode cL_isSort 0 = .ok (.aload_n 0, 1) := by decide +kernel
theorem dL_isSort_1 : decode cL_isSort 1 = .ok (.iload 4, 2) := by decide +kernel
theorem dL_isSort_3 : decode cL_isSort 3 = .ok (.aload_n 1, 1) := by decide +kernel
theorem dL_isSort_4 : decode cL_isSort 4 = .ok (.iconst 3, 1) := by decide +kernel
theorem dL_isSort_5 : decode cL_isSort 5 = .ok (.invokestatic 103, 3) := by decide +kernel
theorem dL_isSort_8 : decode cL_isSort 8 = .ok (.iconst 1, 1) := by decide +kernel
theorem dL_isSort_9 : decode cL_isSort 9 = .ok (.aload_n 1, 1) := by decide +kernel
theorem dL_isSort_10 : decode cL_isSort 10 = .ok (.bipush 9, 2) := by decide +kernel
theorem dL_isSort_12 : decode cL_isSort 12 = .ok (.invokestatic 103, 3) := by decide +kernel
theorem dL_isSort_15 : decode cL_isSort 15 = .ok (.iadd, 1) := by decide +kernel
theorem dL_isSort_16 : decode cL_isSort 16 = .ok (.invokevirtual 34, 3) := by decide +kernel
theorem dL_isSort_19 : decode cL_isSort 19 = .ok (.istore 5, 2) := by decide +kernel
theorem dL_isSort_21 : decode cL_isSort 21 = .ok (.aload_n 0, 1) := by decide +kernel
theorem dL_isSort_22 : decode cL_isSort 22 = .ok (.aload_n 1, 1) := by decide +kernel
theorem dL_isSort_23 : decode cL_isSort 23 = .ok (.iconst 3, 1) := by decide +kernel
theorem dL_isSort_24 : decode cL_isSort 24 = .ok (.invokestatic 103, 3) := by decide +kernel
theorem dL_isSort_27 : decode cL_isSort 27 = .ok (.iconst 2, 1) := by decide +kernel
theorem dL_isSort_28 : decode cL_isSort 28 = .ok (.aload_n 1, 1) := by decide +kernel
theorem dL_isSort_29 : decode cL_isSort 29 = .ok (.iconst 3, 1) := by decide +kernel
theorem dL_isSort_30 : decode cL_isSort 30 = .ok (.invokestatic 103, 3) := by decide +kernel
theorem dL_isSort_33 : decode cL_isSort 33 = .ok (.iadd, 1) := by decide +kernel
theorem dL_isSort_34 : decode cL_isSort 34 = .ok (.invokevirtual 37, 3) := by decide +kernel
theorem dL_isSort_37 : decode cL_isSort 37 = .ok (.istore 5, 2) := by decide +kernel
theorem dL_isSort_39 : decode cL_isSort 39 = .ok (.aload_n 0, 1) := by decide +kernel
theorem dL_isSort_40 : decode cL_isSort 40 = .ok (.aload_n 0, 1) := by decide +kernel
theorem dL_isSort_41 : decode cL_isSort 41 = .ok (.iload_n 2, 1) := by decide +kernel
theorem dL_isSort_42 : decode cL_isSort 42 = .ok (.invokestatic 120, 3) := by decide +kernel
theorem dL_isSort_45 : decode cL_isSort 45 = .ok (.iload 4, 2) := by decide +kernel
theorem dL_isSort_47 : decode cL_isSort 47 = .ok (.invokestatic 132, 3) := by decide +kernel
theorem dL_isSort_50 : decode cL_isSort 50 = .ok (.astore 6, 2) := by decide +kernel
theorem dL_isSort_52 : decode cL_isSort 52 = .ok (.aload 6, 2) := by decide +kernel
theorem dL_isSort_54 : decode cL_isSort 54 = .ok (.arraylength, 1) := by decide +kernel
theorem dL_isSort_55 : decode cL_isSort 55 = .ok (.aload_n 0, 1) := by decide +kernel
theorem dL_isSort_56 : decode cL_isSort 56 = .ok (.iload_n 2, 1) := by decide +kernel
theorem dL_isSort_57 : decode cL_isSort 57 = .ok (.iconst 1, 1) := by decide +kernel
theorem dL_isSort_58 : decode cL_isSort 58 = .ok (.invokevirtual 43, 3) := by decide +kernel
theorem dL_isSort_61 : decode cL_isSort 61 = .ok (.iadd, 1) := by decide +kernel
theorem dL_isSort_62 : decode cL_isSort 62 = .ok (.istore 7, 2) := by decide +kernel
theorem dL_isSort_64 : decode cL_isSort 64 = .ok (.aload_n 0, 1) := by decide +kernel
theorem dL_isSort_65 : decode cL_isSort 65 = .ok (.iload_n 2, 1) := by decide +kernel
theorem dL_isSort_66 : decode cL_isSort 66 = .ok (.invokevirtual 168, 3) := by decide +kernel
theorem dL_isSort_69 : decode cL_isSort 69 = .ok (.ifCond .ne 27, 3) := by decide +kernel
theorem dL_isSort_96 : decode cL_isSort 96 = .ok (.iconst 0, 1) := by decide +kernel
theorem dL_isSort_97 : decode cL_isSort 97 = .ok (.ireturn, 1) := by decide +kernel
theorem dL_isSort_72 : decode cL_isSort 72 = .ok (.aload_n 0, 1) := by decide +kernel
theorem dL_isSort_73 : decode cL_isSort 73 = .ok (.iload_n 2, 1) := by decide +kernel
theorem dL_isSort_74 : decode cL_isSort 74 = .ok (.iload_n 3, 1) := by decide +kernel
theorem dL_isSort_75 : decode cL_isSort 75 = .ok (.invokevirtual 171, 3) := by decide +kernel
theorem dL_isSort_78 : decode cL_isSort 78 = .ok (.iload 7, 2) := by decide +kernel
theorem dL_isSort_80 : decode cL_isSort 80 = .ok (.if_icmp .ne 16, 3) := by decide +kernel
theorem dL_isSort_83 : decode cL_isSort 83 = .ok (.aload_n 0, 1) := by decide +kernel
theorem dL_isSort_84 : decode cL_isSort 84 = .ok (.iload_n 3, 1) := by decide +kernel
theorem dL_isSort_85 : decode cL_isSort 85 = .ok (.invokestatic 120, 3) := by decide +kernel
theorem dL_isSort_88 : decode cL_isSort 88 = .ok (.aload 6, 2) := by decide +kernel
theorem dL_isSort_90 : decode cL_isSort 90 = .ok (.invokestatic 136, 3) := by decide +kernel
theorem dL_isSort_93 : decode cL_isSort 93 = .ok (.ifCond .ne 5, 3) := by decide +kernel
theorem dL_isSort_98 : decode cL_isSort 98 = .ok (.aload_n 0, 1) := by decide +kernel
theorem dL_isSort_99 : decode cL_isSort 99 = .ok (.iload_n 3, 1) := by decide +kernel
theorem dL_isSort_100 : decode cL_isSort 100 = .ok (.iload 4, 2) := by decide +kernel
theorem dL_isSort_102 : decode cL_isSort 102 = .ok (.invokevirtual 144, 3) := by decide +kernel
theorem dL_isSort_105 : decode cL_isSort 105 = .ok (.ifCond .eq 48, 3) := by decide +kernel
theorem dL_isSort_153 : decode cL_isSort 153 = .ok (.iconst 0, 1) := by decide +kernel
theorem dL_isSort_154 : decode cL_isSort 154 = .ok (.ireturn, 1) := by decide +kernel
theorem dL_isSort_108 : decode cL_isSort 108 = .ok (.aload_n 0, 1) := by decide +kernel
theorem dL_isSort_109 : decode cL_isSort 109 = .ok (.iload_n 3, 1) := by decide +kernel
theorem dL_isSort_110 : decode cL_isSort 110 = .ok (.invokevirtual 114, 3) := by decide +kernel
theorem dL_isSort_113 : decode cL_isSort 113 = .ok (.iconst 1, 1) := by decide +kernel
theorem dL_isSort_114 : decode cL_isSort 114 = .ok (.aload_n 0, 1) := by decide +kernel
theorem dL_isSort_115 : decode cL_isSort 115 = .ok (.iconst 1, 1) := by decide +kernel
theorem dL_isSort_116 : decode cL_isSort 116 = .ok (.invokevirtual 174, 3) := by decide +kernel
theorem dL_isSort_143 : decode cL_isSort 143 = .ok (.invokestatic 177, 3) := by decide +kernel
theorem dL_isSort_146 : decode cL_isSort 146 = .ok (.if_icmp .gt 7, 3) := by decide +kernel
theorem dL_isSort_149 : decode cL_isSort 149 = .ok (.iconst 1, 1) := by decide +kernel
theorem dL_isSort_150 : decode cL_isSort 150 = .ok (.goto 4, 3) := by decide +kernel
theorem dL_isSort_119 : decode cL_isSort 119 = .ok (.ifCond .ne 23, 3) := by decide +kernel
theorem dL_isSort_142 : decode cL_isSort 142 = .ok (.iconst 1, 1) := by decide +kernel
theorem dL_isSort_122 : decode cL_isSort 122 = .ok (.aload 6, 2) := by decide +kernel
theorem dL_isSort_124 : decode cL_isSort 124 = .ok (.arraylength, 1) := by decide +kernel
theorem dL_isSort_125 : decode cL_isSort 125 = .ok (.aload_n 0, 1) := by decide +kernel
theorem dL_isSort_126 : decode cL_isSort 126 = .ok (.iconst 2, 1) := by decide +kernel
theorem dL_isSort_127 : decode cL_isSort 127 = .ok (.invokevirtual 174, 3) := by decide +kernel
theorem dL_isSort_130 : decode cL_isSort 130 = .ok (.iadd, 1) := by decide +kernel
theorem dL_isSort_131 : decode cL_isSort 131 = .ok (.iconst 1, 1) := by decide +kernel
theorem dL_isSort_132 : decode cL_isSort 132 = .ok (.isub, 1) := by decide +kernel
theorem dL_isSort_133 : decode cL_isSort 133 = .ok (.aload_n 0, 1) := by decide +kernel
theorem dL_isSort_134 : decode cL_isSort 134 = .ok (.iconst 2, 1) := by decide +kernel
theorem dL_isSort_135 : decode cL_isSort 135 = .ok (.invokevirtual 174, 3) := by decide +kernel
theorem dL_isSort_138 : decode cL_isSort 138 = .ok (.idiv, 1) := by decide +kernel
theorem dL_isSort_139 : decode cL_isSort 139 = .ok (.goto 4, 3) := by decide +kernel

set_option maxHeartbeats 8000000 in
set_option maxRecDepth 100000 in
theorem c_L_isSort (l : Launch) (hlf : l.stackTraces = false) (dC : Nat → ClassId) (dI : Nat → Nat → Nat) (g : Nat → ClassId) (tp_p_ hd_p_ : Nat → Nat) (tf_p_ cf_p_ : Nat → Option Nat) (htf_p_ : ∀ j, j < 8 → tf_p_ j = some (tp_p_ j)) (hcf_p_ : ∀ j, j < 8 → cf_p_ j = some (tp_p_ (8 + j))) (a_p_ : Nat → Nat) (t_p_ : Nat) (h_p_ : a_p_ 0 = t_p_) (o_p_ : OS) (a_r_ n_r_ : Nat) (r_ : Nat → Int32) (tape : Int32) (to_ : Int32) (order : Int32) (Q : Bool → (Nat → Int32) → OS → Prop) (hw : wp_L_isSort o_p_ n_r_ r_ tape to_ order Q) (sz : Nat) : Met l yL_isSort wqL_isSort ({ frames := 10, cells := 3953, slots := 24300, locals := 200 }) (va_Pc [.ref t_p_, .ref a_r_, .int tape, .int to_, .int order] (PG (dC, dI) g ([(a_r_, .inl (g 0, n_r_, .inl r_))] ++ (offS a_p_ tp_p_ hd_p_ tf_p_ cf_p_ g o_p_)) sz)) (va_Qi (fun (r : Int32) (u : (Nat → Int32) × (Nat → Nat) × OS × Unit) => ∃ b : Bool, r = b2i b ∧ (Q b u.1 u.2.2.1 ∧ u.2.1 0 = t_p_)) (fun (u : (Nat → Int32) × (Nat → Nat) × OS × Unit) t9 => va_P (dC, dI) vwCl ([(a_r_, .inl (g 0, n_r_, .inl u.1))] ++ (offS u.2.1 tp_p_ hd_p_ tf_p_ cf_p_ g u.2.2.1)) t9.heap ∧ va_D (va_A ([(a_r_, .inl (g 0, n_r_, .inl r_))] ++ (offS a_p_ tp_p_ hd_p_ tf_p_ cf_p_ g o_p_)) sz) ([(a_r_, .inl (g 0, n_r_, .inl u.1))] ++ (offS u.2.1 tp_p_ hd_p_ tf_p_ cf_p_ g u.2.2.1))) (va_A ([(a_r_, .inl (g 0, n_r_, .inl r_))] ++ (offS a_p_ tp_p_ hd_p_ tf_p_ cf_p_ g o_p_)) sz)) 3953 24300 (va_A ([(a_r_, .inl (g 0, n_r_, .inl r_))] ++ (offS a_p_ tp_p_ hd_p_ tf_p_ cf_p_ g o_p_)) sz) := by
  refine Met.ofW (cc := cL_isSort) (maxL := 8) (ret := (some .boolean)) (by decide) rfl ?_
  intro p e s m args below meth c s₁ B hml hv
  obtain ⟨rfl, hsz, hP, hK, hD0, hG⟩ := hv
  have hx := B.exec
  have hb := B.bytes
  have hr := B.returns
  have hts := atoms_spec (ws := wqL_isSort) B.pre
  have hown : s.vm.findClass RL = some m.cls := findClass_of_methodNamed B.named
  have hlocks := B.notSynchronized
  subst hsz
  have hD := hD0.self (sz := s.heap.size)
  generalize hAe : va_A ([(a_r_, .inl (g 0, n_r_, .inl r_))] ++ (offS a_p_ tp_p_ hd_p_ tf_p_ cf_p_ g o_p_)) s.heap.size = A at hD hG ⊢
  have hA : ∀ q : Nat, s.heap.size ≤ q → A q := fun q h => by rw [← hAe]; exact Or.inr h
  have hS : va_S A s.heap s.heap [] := va_S.rf
  have hrc : (headSpec wqL_isSort ({ frames := 10, cells := 3953, slots := 24300, locals := 200 })).room.cells = 3953 := rfl
  have hrs : (headSpec wqL_isSort ({ frames := 10, cells := 3953, slots := 24300, locals := 200 })).room.slots = 24300 := rfl
  have hl := lv_entry ([.ref t_p_, .ref a_r_, .int tape, .int to_, .int order]) (n := 8) (Nat.le_of_ble_eq_true rfl)
  rw [lg_entry_eq]
  generalize (lg_sl ([.ref t_p_, .ref a_r_, .int tape, .int to_, .int order]) ++ List.replicate (8 - (lg_sl ([.ref t_p_, .ref a_r_, .int tape, .int to_, .int order])).length) Slot.unset).toArray = ls at hl ⊢
  have hl : lv_has ls 8 [(0, .ref t_p_), (1, .ref a_r_), (2, .int tape), (3, .int to_), (4, .int order)] := hl
  unfold wp_L_isSort at hw
  have hmmax177_0 := hts (Cond.methodLink RL 177 Lib.Math.max.name) (aw_l aw_6_76)
  have hmmax177_1 := hts (Cond.static Lib.Math.max.name) (aw_l aw_3_191)
  have hmmax177_2 := hts (Cond.initialized "java/lang/Math") (aw_l aw_1_19)
  have hmmax177_3 := hts (Cond.code Lib.Math.max.name Lib.Math.max.code 2 (some .int)) (aw_l aw_3_192)
  refine lv_aload_n hx hb dL_isSort_0 rfl (lv_at hl 0 rfl) ?_
  refine lv_iload hx hb dL_isSort_1 (lv_at hl 4 rfl) ?_
  refine lv_aload_n hx hb dL_isSort_3 rfl (lv_at hl 1 rfl) ?_
  refine lv_iconst (v := 3) hx hb dL_isSort_4 (by decide) ?_
  obtain ⟨hPs, hDs⟩ := seg_call (segs := [[(a_r_, .inl (g 0, n_r_, .inl r_))], offS a_p_ tp_p_ hd_p_ tf_p_ cf_p_ g o_p_]) [offS a_p_ tp_p_ hd_p_ tf_p_ cf_p_ g o_p_] [[(a_r_, .inl (g 0, n_r_, .inl r_))]] 2 [1, 0] rfl rfl (by decide) hP hD
  have hPc : va_P (dC, dI) vwCl [(a_r_, .inl (g 0, n_r_, .inl r_))] s.heap := P_r hPs
  have hDc : va_D A [(a_r_, .inl (g 0, n_r_, .inl r_))] := D_r hDs
  have hFc : ∀ q, va_A [(a_r_, .inl (g 0, n_r_, .inl r_))] s.heap.size q → A q := A_all hDc hA hS.1
  refine va_calli (va_runS (As := [.ref a_r_, .int 3]) (rest := [.int order, .ref t_p_]) ⟨hx, hb, hml, hown, hts⟩ (c_L_draw l hlf dC dI g (a_r_ := a_r_) (n_r_ := n_r_) (r_ := r_) (many := 3) (hw := hw) (sz := s.heap.size)) (va_cwS 2 hts (gqS aw_2_215 aw_2_216 aw_1_0 aw_2_217) rfl rfl rfl (by decide +kernel) ⟨Nat.le_of_ble_eq_true rfl, Nat.le_of_ble_eq_true rfl⟩) ⟨PG_blind, PG_call hK hG hS hPc hDc hFc⟩ rfl rfl hl.1 rfl (lv_room (Nat.le_of_ble_eq_true rfl)) dL_isSort_5 ⟨by rw [hrc]; omega, by rw [hrs]; omega⟩) hS (fun q _ h => hFc q h) hFc (fun r_1 u_1 t_1 H_1 L_1 ht_1 hvm_1 hw_1 hB_1 hz_1 hk_1 hS => ?_)
  obtain ⟨r__2, u_1⟩ := u_1
  have hw := hw_1
  rw [ht_1] at hB_1
  obtain ⟨hP1, hD1⟩ := hB_1
  obtain ⟨hP, hD⟩ := join_r hPs hDs hk_1 hFc hP1 hD1
  obtain ⟨hP, hD⟩ := seg_join [offS a_p_ tp_p_ hd_p_ tf_p_ cf_p_ g o_p_] [[(a_r_, .inl (g 0, n_r_, .inl r__2))]] [[(a_r_, .inl (g 0, n_r_, .inl r__2))], offS a_p_ tp_p_ hd_p_ tf_p_ cf_p_ g o_p_] 2 [1, 0] rfl rfl (by decide) hP hD
  have hP : va_P (dC, dI) vwCl ([(a_r_, .inl (g 0, n_r_, .inl r__2))] ++ (offS a_p_ tp_p_ hd_p_ tf_p_ cf_p_ g o_p_)) H_1 := hP
  have hD : va_D A ([(a_r_, .inl (g 0, n_r_, .inl r__2))] ++ (offS a_p_ tp_p_ hd_p_ tf_p_ cf_p_ g o_p_)) := hD
  refine W.widen (k := 0) (n := 0) (by omega) (by omega) ?_
  refine lv_iconst (v := 1) hx hb dL_isSort_8 (by decide) ?_
  refine lv_aload_n hx hb dL_isSort_9 rfl (lv_at hl 1 rfl) ?_
  refine lv_bipush (v := 9) hx hb dL_isSort_10 (by decide) ?_
  obtain ⟨hPs, hDs⟩ := seg_call (segs := [[(a_r_, .inl (g 0, n_r_, .inl r__2))], offS a_p_ tp_p_ hd_p_ tf_p_ cf_p_ g o_p_]) [offS a_p_ tp_p_ hd_p_ tf_p_ cf_p_ g o_p_] [[(a_r_, .inl (g 0, n_r_, .inl r__2))]] 2 [1, 0] rfl rfl (by decide) hP hD
  have hPc : va_P (dC, dI) vwCl [(a_r_, .inl (g 0, n_r_, .inl r__2))] H_1 := P_r hPs
  have hDc : va_D A [(a_r_, .inl (g 0, n_r_, .inl r__2))] := D_r hDs
  have hFc : ∀ q, va_A [(a_r_, .inl (g 0, n_r_, .inl r__2))] H_1.size q → A q := A_all hDc hA hS.1
  refine va_calli (va_runS (As := [.ref a_r_, .int 9]) (rest := [.int 1, .int r_1, .int order, .ref t_p_]) ⟨hx, hb, hml, hown, hts⟩ (c_L_draw l hlf dC dI g (a_r_ := a_r_) (n_r_ := n_r_) (r_ := r__2) (many := 9) (hw := hw) (sz := H_1.size)) (va_cwS 2 hts (gqS aw_2_215 aw_2_216 aw_1_0 aw_2_217) rfl rfl rfl (by decide +kernel) ⟨Nat.le_of_ble_eq_true rfl, Nat.le_of_ble_eq_true rfl⟩) ⟨PG_blind, PG_call hK hG hS hPc hDc hFc⟩ rfl rfl hl.1 rfl (lv_room (Nat.le_of_ble_eq_true rfl)) dL_isSort_12 ⟨by rw [hrc]; omega, by rw [hrs]; omega⟩) hS (fun q _ h => hFc q h) hFc (fun r_3 u_3 t_3 H_3 L_3 ht_3 hvm_3 hw_3 hB_3 hz_3 hk_3 hS => ?_)
  obtain ⟨r__4, u_3⟩ := u_3
  have hw := hw_3
  rw [ht_3] at hB_3
  obtain ⟨hP1, hD1⟩ := hB_3
  obtain ⟨hP, hD⟩ := join_r hPs hDs hk_3 hFc hP1 hD1
  obtain ⟨hP, hD⟩ := seg_join [offS a_p_ tp_p_ hd_p_ tf_p_ cf_p_ g o_p_] [[(a_r_, .inl (g 0, n_r_, .inl r__4))]] [[(a_r_, .inl (g 0, n_r_, .inl r__4))], offS a_p_ tp_p_ hd_p_ tf_p_ cf_p_ g o_p_] 2 [1, 0] rfl rfl (by decide) hP hD
  have hP : va_P (dC, dI) vwCl ([(a_r_, .inl (g 0, n_r_, .inl r__4))] ++ (offS a_p_ tp_p_ hd_p_ tf_p_ cf_p_ g o_p_)) H_3 := hP
  have hD : va_D A ([(a_r_, .inl (g 0, n_r_, .inl r__4))] ++ (offS a_p_ tp_p_ hd_p_ tf_p_ cf_p_ g o_p_)) := hD
  refine W.widen (k := 0) (n := 0) (by omega) (by omega) ?_
  refine lv_iadd hx hb dL_isSort_15 ?_
  refine lv_topi (fun x_5 ex_5 => ?_)
  have hw := hw x_5 ex_5
  obtain ⟨hPs, hDs⟩ := seg_call (segs := [[(a_r_, .inl (g 0, n_r_, .inl r__4))], offS a_p_ tp_p_ hd_p_ tf_p_ cf_p_ g o_p_]) [[(a_r_, .inl (g 0, n_r_, .inl r__4))]] [offS a_p_ tp_p_ hd_p_ tf_p_ cf_p_ g o_p_] 2 [0, 1] rfl rfl (by decide) hP hD
  have hPc : va_P (dC, dI) vwCl (offS a_p_ tp_p_ hd_p_ tf_p_ cf_p_ g o_p_) H_3 := P_r hPs
  have hDc : va_D A (offS a_p_ tp_p_ hd_p_ tf_p_ cf_p_ g o_p_) := D_r hDs
  have hFc : ∀ q, va_A (offS a_p_ tp_p_ hd_p_ tf_p_ cf_p_ g o_p_) H_3.size q → A q := A_all hDc hA hS.1
  refine vx_calli (vx_runV (As := [.int order, .int r_1, .int x_5]) (rest := []) ⟨hx, hb, hml, hown, hts⟩ (p_setRuns l hlf dC dI g tp_p_ hd_p_ tf_p_ cf_p_ htf_p_ hcf_p_ a_p_ t_p_ h_p_ o_p_ order r_1 x_5 (hw := hw) (sz := H_3.size)) (cwV 3 hts (gqV aw_3_154 aw_3_155 aw_3_156 aw_1_1 aw_3_157) rfl rfl rfl (by decide +kernel) ⟨Nat.le_of_ble_eq_true rfl, Nat.le_of_ble_eq_true rfl⟩) ⟨PG_blind, off_recv h_p_ hK hPc, PG_call hK hG hS hPc hDc hFc⟩ rfl rfl hl.1 rfl (lv_room (Nat.le_of_ble_eq_true rfl)) dL_isSort_16 ⟨by rw [hrc]; omega, by rw [hrs]; omega⟩) hS (fun q _ h => hFc q h) hFc (fun q _ h => hFc q h) (fun E ce q9 ux t H1 locs1 ht hvm hp9 hB9 hz hk hS9 hce hcv hcl => ?_) (fun r_6 u_6 t_6 H_6 L_6 ht_6 hvm_6 hw_6 hB_6 hz_6 hk_6 hS => ?_)
  · exact (hB9.1.1).elim
  obtain ⟨ad_7, o_8⟩ := u_6
  obtain ⟨hw, had_7⟩ := hw_6
  rw [ht_6] at hB_6
  obtain ⟨hP1, hD1⟩ := hB_6
  obtain ⟨hP, hD⟩ := join_r hPs hDs hk_6 hFc hP1 hD1
  obtain ⟨hP, hD⟩ := seg_join [[(a_r_, .inl (g 0, n_r_, .inl r__4))]] [offS ad_7 tp_p_ hd_p_ tf_p_ cf_p_ g o_8] [[(a_r_, .inl (g 0, n_r_, .inl r__4))], offS ad_7 tp_p_ hd_p_ tf_p_ cf_p_ g o_8] 2 [0, 1] rfl rfl (by decide) hP hD
  have hP : va_P (dC, dI) vwCl ([(a_r_, .inl (g 0, n_r_, .inl r__4))] ++ (offS ad_7 tp_p_ hd_p_ tf_p_ cf_p_ g o_8)) H_6 := hP
  have hD : va_D A ([(a_r_, .inl (g 0, n_r_, .inl r__4))] ++ (offS ad_7 tp_p_ hd_p_ tf_p_ cf_p_ g o_8)) := hD
  refine W.widen (k := 3) (n := 18) (by omega) (by omega) ?_
  refine lv_istore (lv' := [(5, .int r_6), (0, .ref t_p_), (1, .ref a_r_), (2, .int tape), (3, .int to_), (4, .int order)]) hx hb dL_isSort_19 hl (by decide) rfl (fun ls hl => ?_)
  refine lv_aload_n hx hb dL_isSort_21 rfl (lv_at hl 1 rfl) ?_
  refine lv_aload_n hx hb dL_isSort_22 rfl (lv_at hl 2 rfl) ?_
  refine lv_iconst (v := 3) hx hb dL_isSort_23 (by decide) ?_
  obtain ⟨hPs, hDs⟩ := seg_call (segs := [[(a_r_, .inl (g 0, n_r_, .inl r__4))], offS ad_7 tp_p_ hd_p_ tf_p_ cf_p_ g o_8]) [offS ad_7 tp_p_ hd_p_ tf_p_ cf_p_ g o_8] [[(a_r_, .inl (g 0, n_r_, .inl r__4))]] 2 [1, 0] rfl rfl (by decide) hP hD
  have hPc : va_P (dC, dI) vwCl [(a_r_, .inl (g 0, n_r_, .inl r__4))] H_6 := P_r hPs
  have hDc : va_D A [(a_r_, .inl (g 0, n_r_, .inl r__4))] := D_r hDs
  have hFc : ∀ q, va_A [(a_r_, .inl (g 0, n_r_, .inl r__4))] H_6.size q → A q := A_all hDc hA hS.1
  refine va_calli (va_runS (As := [.ref a_r_, .int 3]) (rest := [.ref t_p_]) ⟨hx, hb, hml, hown, hts⟩ (c_L_draw l hlf dC dI g (a_r_ := a_r_) (n_r_ := n_r_) (r_ := r__4) (many := 3) (hw := hw) (sz := H_6.size)) (va_cwS 2 hts (gqS aw_2_215 aw_2_216 aw_1_0 aw_2_217) rfl rfl rfl (by decide +kernel) ⟨Nat.le_of_ble_eq_true rfl, Nat.le_of_ble_eq_true rfl⟩) ⟨PG_blind, PG_call hK hG hS hPc hDc hFc⟩ rfl rfl hl.1 rfl (lv_room (Nat.le_of_ble_eq_true rfl)) dL_isSort_24 ⟨by rw [hrc]; omega, by rw [hrs]; omega⟩) hS (fun q _ h => hFc q h) hFc (fun r_9 u_9 t_9 H_9 L_9 ht_9 hvm_9 hw_9 hB_9 hz_9 hk_9 hS => ?_)
  obtain ⟨r__10, u_9⟩ := u_9
  have hw := hw_9
  rw [ht_9] at hB_9
  obtain ⟨hP1, hD1⟩ := hB_9
  obtain ⟨hP, hD⟩ := join_r hPs hDs hk_9 hFc hP1 hD1
  obtain ⟨hP, hD⟩ := seg_join [offS ad_7 tp_p_ hd_p_ tf_p_ cf_p_ g o_8] [[(a_r_, .inl (g 0, n_r_, .inl r__10))]] [[(a_r_, .inl (g 0, n_r_, .inl r__10))], offS ad_7 tp_p_ hd_p_ tf_p_ cf_p_ g o_8] 2 [1, 0] rfl rfl (by decide) hP hD
  have hP : va_P (dC, dI) vwCl ([(a_r_, .inl (g 0, n_r_, .inl r__10))] ++ (offS ad_7 tp_p_ hd_p_ tf_p_ cf_p_ g o_8)) H_9 := hP
  have hD : va_D A ([(a_r_, .inl (g 0, n_r_, .inl r__10))] ++ (offS ad_7 tp_p_ hd_p_ tf_p_ cf_p_ g o_8)) := hD
  refine W.widen (k := 3) (n := 18) (by omega) (by omega) ?_
  refine lv_iconst (v := 2) hx hb dL_isSort_27 (by decide) ?_
  refine lv_aload_n hx hb dL_isSort_28 rfl (lv_at hl 2 rfl) ?_
  refine lv_iconst (v := 3) hx hb dL_isSort_29 (by decide) ?_
  obtain ⟨hPs, hDs⟩ := seg_call (segs := [[(a_r_, .inl (g 0, n_r_, .inl r__10))], offS ad_7 tp_p_ hd_p_ tf_p_ cf_p_ g o_8]) [offS ad_7 tp_p_ hd_p_ tf_p_ cf_p_ g o_8] [[(a_r_, .inl (g 0, n_r_, .inl r__10))]] 2 [1, 0] rfl rfl (by decide) hP hD
  have hPc : va_P (dC, dI) vwCl [(a_r_, .inl (g 0, n_r_, .inl r__10))] H_9 := P_r hPs
  have hDc : va_D A [(a_r_, .inl (g 0, n_r_, .inl r__10))] := D_r hDs
  have hFc : ∀ q, va_A [(a_r_, .inl (g 0, n_r_, .inl r__10))] H_9.size q → A q := A_all hDc hA hS.1
  refine va_calli (va_runS (As := [.ref a_r_, .int 3]) (rest := [.int 2, .int r_9, .ref t_p_]) ⟨hx, hb, hml, hown, hts⟩ (c_L_draw l hlf dC dI g (a_r_ := a_r_) (n_r_ := n_r_) (r_ := r__10) (many := 3) (hw := hw) (sz := H_9.size)) (va_cwS 2 hts (gqS aw_2_215 aw_2_216 aw_1_0 aw_2_217) rfl rfl rfl (by decide +kernel) ⟨Nat.le_of_ble_eq_true rfl, Nat.le_of_ble_eq_true rfl⟩) ⟨PG_blind, PG_call hK hG hS hPc hDc hFc⟩ rfl rfl hl.1 rfl (lv_room (Nat.le_of_ble_eq_true rfl)) dL_isSort_30 ⟨by rw [hrc]; omega, by rw [hrs]; omega⟩) hS (fun q _ h => hFc q h) hFc (fun r_11 u_11 t_11 H_11 L_11 ht_11 hvm_11 hw_11 hB_11 hz_11 hk_11 hS => ?_)
  obtain ⟨r__12, u_11⟩ := u_11
  have hw := hw_11
  rw [ht_11] at hB_11
  obtain ⟨hP1, hD1⟩ := hB_11
  obtain ⟨hP, hD⟩ := join_r hPs hDs hk_11 hFc hP1 hD1
  obtain ⟨hP, hD⟩ := seg_join [offS ad_7 tp_p_ hd_p_ tf_p_ cf_p_ g o_8] [[(a_r_, .inl (g 0, n_r_, .inl r__12))]] [[(a_r_, .inl (g 0, n_r_, .inl r__12))], offS ad_7 tp_p_ hd_p_ tf_p_ cf_p_ g o_8] 2 [1, 0] rfl rfl (by decide) hP hD
  have hP : va_P (dC, dI) vwCl ([(a_r_, .inl (g 0, n_r_, .inl r__12))] ++ (offS ad_7 tp_p_ hd_p_ tf_p_ cf_p_ g o_8)) H_11 := hP
  have hD : va_D A ([(a_r_, .inl (g 0, n_r_, .inl r__12))] ++ (offS ad_7 tp_p_ hd_p_ tf_p_ cf_p_ g o_8)) := hD
  refine W.widen (k := 3) (n := 18) (by omega) (by omega) ?_
  refine lv_iadd hx hb dL_isSort_33 ?_
  refine lv_topi (fun x_13 ex_13 => ?_)
  have hw := hw x_13 ex_13
  obtain ⟨hPs, hDs⟩ := seg_call (segs := [[(a_r_, .inl (g 0, n_r_, .inl r__12))], offS ad_7 tp_p_ hd_p_ tf_p_ cf_p_ g o_8]) [[(a_r_, .inl (g 0, n_r_, .inl r__12))]] [offS ad_7 tp_p_ hd_p_ tf_p_ cf_p_ g o_8] 2 [0, 1] rfl rfl (by decide) hP hD
  have hPc : va_P (dC, dI) vwCl (offS ad_7 tp_p_ hd_p_ tf_p_ cf_p_ g o_8) H_11 := P_r hPs
  have hDc : va_D A (offS ad_7 tp_p_ hd_p_ tf_p_ cf_p_ g o_8) := D_r hDs
  have hFc : ∀ q, va_A (offS ad_7 tp_p_ hd_p_ tf_p_ cf_p_ g o_8) H_11.size q → A q := A_all hDc hA hS.1
  refine vx_calli (vx_runV (As := [.int r_9, .int x_13]) (rest := []) ⟨hx, hb, hml, hown, hts⟩ (p_setMerge l hlf dC dI g tp_p_ hd_p_ tf_p_ cf_p_ htf_p_ hcf_p_ ad_7 t_p_ had_7 o_8 r_9 x_13 (hw := hw) (sz := H_11.size)) (cwV 2 hts (gqV aw_4_52 aw_4_53 aw_4_54 aw_1_1 aw_4_55) rfl rfl rfl (by decide +kernel) ⟨Nat.le_of_ble_eq_true rfl, Nat.le_of_ble_eq_true rfl⟩) ⟨PG_blind, off_recv had_7 hK hPc, PG_call hK hG hS hPc hDc hFc⟩ rfl rfl hl.1 rfl (lv_room (Nat.le_of_ble_eq_true rfl)) dL_isSort_34 ⟨by rw [hrc]; omega, by rw [hrs]; omega⟩) hS (fun q _ h => hFc q h) hFc (fun q _ h => hFc q h) (fun E ce q9 ux t H1 locs1 ht hvm hp9 hB9 hz hk hS9 hce hcv hcl => ?_) (fun r_14 u_14 t_14 H_14 L_14 ht_14 hvm_14 hw_14 hB_14 hz_14 hk_14 hS => ?_)
  · exact (hB9.1.1).elim
  obtain ⟨ad_15, o_16⟩ := u_14
  obtain ⟨hw, had_15⟩ := hw_14
  rw [ht_14] at hB_14
  obtain ⟨hP1, hD1⟩ := hB_14
  obtain ⟨hP, hD⟩ := join_r hPs hDs hk_14 hFc hP1 hD1
  obtain ⟨hP, hD⟩ := seg_join [[(a_r_, .inl (g 0, n_r_, .inl r__12))]] [offS ad_15 tp_p_ hd_p_ tf_p_ cf_p_ g o_16] [[(a_r_, .inl (g 0, n_r_, .inl r__12))], offS ad_15 tp_p_ hd_p_ tf_p_ cf_p_ g o_16] 2 [0, 1] rfl rfl (by decide) hP hD
  have hP : va_P (dC, dI) vwCl ([(a_r_, .inl (g 0, n_r_, .inl r__12))] ++ (offS ad_15 tp_p_ hd_p_ tf_p_ cf_p_ g o_16)) H_14 := hP
  have hD : va_D A ([(a_r_, .inl (g 0, n_r_, .inl r__12))] ++ (offS ad_15 tp_p_ hd_p_ tf_p_ cf_p_ g o_16)) := hD
  refine W.widen (k := 5) (n := 30) (by omega) (by omega) ?_
  refine lv_istore (lv' := [(5, .int r_14), (0, .ref t_p_), (1, .ref a_r_), (2, .int tape), (3, .int to_), (4, .int order)]) hx hb dL_isSort_37 hl (by decide) rfl (fun ls hl => ?_)
  refine lv_aload_n hx hb dL_isSort_39 rfl (lv_at hl 1 rfl) ?_
  refine lv_aload_n hx hb dL_isSort_40 rfl (lv_at hl 1 rfl) ?_
  refine lv_iload_n hx hb dL_isSort_41 rfl (lv_at hl 3 rfl) ?_
  obtain ⟨hPs, hDs⟩ := seg_call (segs := [[(a_r_, .inl (g 0, n_r_, .inl r__12))], offS ad_15 tp_p_ hd_p_ tf_p_ cf_p_ g o_16]) [[(a_r_, .inl (g 0, n_r_, .inl r__12))]] [offS ad_15 tp_p_ hd_p_ tf_p_ cf_p_ g o_16] 2 [0, 1] rfl rfl (by decide) hP hD
  have hPc : va_P (dC, dI) vwCl (offS ad_15 tp_p_ hd_p_ tf_p_ cf_p_ g o_16) H_14 := P_r hPs
  have hDc : va_D A (offS ad_15 tp_p_ hd_p_ tf_p_ cf_p_ g o_16) := D_r hDs
  have hFc : ∀ q, va_A (offS ad_15 tp_p_ hd_p_ tf_p_ cf_p_ g o_16) H_14.size q → A q := A_all hDc hA hS.1
  refine va_callq (va_runS (As := [.ref t_p_, .int tape]) (rest := [.ref t_p_]) ⟨hx, hb, hml, hown, hts⟩ (c_L_tape l hlf dC dI g (tp_p_ := tp_p_) (hd_p_ := hd_p_) (tf_p_ := tf_p_) (cf_p_ := cf_p_) (htf_p_ := htf_p_) (hcf_p_ := hcf_p_) (a_p_ := ad_15) (t_p_ := t_p_) (h_p_ := had_15) (o_p_ := o_16) (tape := tape) (hw := hw) (sz := H_14.size)) (va_cwS 2 hts (gqS aw_3_158 aw_3_159 aw_1_0 aw_3_160) rfl rfl rfl (by decide +kernel) ⟨Nat.le_of_ble_eq_true rfl, Nat.le_of_ble_eq_true rfl⟩) ⟨PG_blind, PG_call hK hG hS hPc hDc hFc⟩ rfl rfl hl.1 rfl (lv_room (Nat.le_of_ble_eq_true rfl)) dL_isSort_42 ⟨by rw [hrc]; omega, by rw [hrs]; omega⟩) hS (fun q _ h => hFc q h) hFc (fun r_17 u_17 t_17 H_17 L_17 ht_17 hvm_17 hw_17 hB_17 hz_17 hk_17 hS => ?_)
  obtain ⟨ad_18, o_19, a_q_20, n_21, q_22, u_17⟩ := u_17
  obtain ⟨rfl, ⟨hw, had_18⟩⟩ := hw_17
  rw [ht_17] at hB_17
  obtain ⟨hP1, hD1⟩ := hB_17
  obtain ⟨hP, hD⟩ := join_r hPs hDs hk_17 hFc hP1 hD1
  obtain ⟨hP, hD⟩ := seg_join [[(a_r_, .inl (g 0, n_r_, .inl r__12))]] [[(a_q_20, .inl (g 0, n_21, .inl q_22))], offS ad_18 tp_p_ hd_p_ tf_p_ cf_p_ g o_19] [[(a_r_, .inl (g 0, n_r_, .inl r__12))], [(a_q_20, .inl (g 0, n_21, .inl q_22))], offS ad_18 tp_p_ hd_p_ tf_p_ cf_p_ g o_19] 3 [0, 1, 2] rfl rfl (by decide) hP hD
  have hP : va_P (dC, dI) vwCl ([(a_r_, .inl (g 0, n_r_, .inl r__12)), (a_q_20, .inl (g 0, n_21, .inl q_22))] ++ (offS ad_18 tp_p_ hd_p_ tf_p_ cf_p_ g o_19)) H_17 := hP
  have hD : va_D A ([(a_r_, .inl (g 0, n_r_, .inl r__12)), (a_q_20, .inl (g 0, n_21, .inl q_22))] ++ (offS ad_18 tp_p_ hd_p_ tf_p_ cf_p_ g o_19)) := hD
  refine W.widen (k := 209) (n := 1448) (by omega) (by omega) ?_
  refine lv_iload hx hb dL_isSort_45 (lv_at hl 5 rfl) ?_
  obtain ⟨hPs, hDs⟩ := seg_call (segs := [[(a_r_, .inl (g 0, n_r_, .inl r__12))], [(a_q_20, .inl (g 0, n_21, .inl q_22))], offS ad_18 tp_p_ hd_p_ tf_p_ cf_p_ g o_19]) [[(a_r_, .inl (g 0, n_r_, .inl r__12))]] [[(a_q_20, .inl (g 0, n_21, .inl q_22))], offS ad_18 tp_p_ hd_p_ tf_p_ cf_p_ g o_19] 3 [0, 1, 2] rfl rfl (by decide) hP hD
  have hPc : va_P (dC, dI) vwCl ([(a_q_20, .inl (g 0, n_21, .inl q_22))] ++ (offS ad_18 tp_p_ hd_p_ tf_p_ cf_p_ g o_19)) H_17 := P_r hPs
  have hDc : va_D A ([(a_q_20, .inl (g 0, n_21, .inl q_22))] ++ (offS ad_18 tp_p_ hd_p_ tf_p_ cf_p_ g o_19)) := D_r hDs
  have hFc : ∀ q, va_A ([(a_q_20, .inl (g 0, n_21, .inl q_22))] ++ (offS ad_18 tp_p_ hd_p_ tf_p_ cf_p_ g o_19)) H_17.size q → A q := A_all hDc hA hS.1
  refine va_callq (va_runS (As := [.ref t_p_, .ref a_q_20, .int order]) (rest := []) ⟨hx, hb, hml, hown, hts⟩ (c_L_sorted_s l hlf dC dI g (tp_p_ := tp_p_) (hd_p_ := hd_p_) (tf_p_ := tf_p_) (cf_p_ := cf_p_) (htf_p_ := htf_p_) (hcf_p_ := hcf_p_) (a_p_ := ad_18) (t_p_ := t_p_) (h_p_ := had_18) (o_p_ := o_19) (a_all := a_q_20) (n_all := n_21) (all := q_22) (order := order) (hw := hw) (sz := H_17.size)) (va_cwS 3 hts (gqS aw_4_39 aw_4_40 aw_1_0 aw_4_41) rfl rfl rfl (by decide +kernel) ⟨Nat.le_of_ble_eq_true rfl, Nat.le_of_ble_eq_true rfl⟩) ⟨PG_blind, PG_call hK hG hS hPc hDc hFc⟩ rfl rfl hl.1 rfl (lv_room (Nat.le_of_ble_eq_true rfl)) dL_isSort_47 ⟨by rw [hrc]; omega, by rw [hrs]; omega⟩) hS (fun q _ h => hFc q h) hFc (fun r_23 u_23 t_23 H_23 L_23 ht_23 hvm_23 hw_23 hB_23 hz_23 hk_23 hS => ?_)
  obtain ⟨ad_24, o_25, a_q_26, n_27, q_28, u_23⟩ := u_23
  obtain ⟨rfl, ⟨hw, had_24⟩⟩ := hw_23
  rw [ht_23] at hB_23
  obtain ⟨hP1, hD1⟩ := hB_23
  obtain ⟨hP, hD⟩ := join_r hPs hDs hk_23 hFc hP1 hD1
  obtain ⟨hP, hD⟩ := seg_join [[(a_r_, .inl (g 0, n_r_, .inl r__12))]] [[(a_q_20, .inl (g 0, n_21, .inl q_22))], [(a_q_26, .inl (g 0, n_27, .inl q_28))], offS ad_24 tp_p_ hd_p_ tf_p_ cf_p_ g o_25] [[(a_r_, .inl (g 0, n_r_, .inl r__12))], [(a_q_20, .inl (g 0, n_21, .inl q_22))], [(a_q_26, .inl (g 0, n_27, .inl q_28))], offS ad_24 tp_p_ hd_p_ tf_p_ cf_p_ g o_25] 4 [0, 1, 2, 3] rfl rfl (by decide) hP hD
  have hP : va_P (dC, dI) vwCl ([(a_r_, .inl (g 0, n_r_, .inl r__12)), (a_q_20, .inl (g 0, n_21, .inl q_22)), (a_q_26, .inl (g 0, n_27, .inl q_28))] ++ (offS ad_24 tp_p_ hd_p_ tf_p_ cf_p_ g o_25)) H_23 := hP
  have hD : va_D A ([(a_r_, .inl (g 0, n_r_, .inl r__12)), (a_q_20, .inl (g 0, n_21, .inl q_22)), (a_q_26, .inl (g 0, n_27, .inl q_28))] ++ (offS ad_24 tp_p_ hd_p_ tf_p_ cf_p_ g o_25)) := hD
  refine W.widen (k := 3738) (n := 22816) (by omega) (by omega) ?_
  refine lv_astore (lv' := [(6, .ref a_q_26), (5, .int r_14), (0, .ref t_p_), (1, .ref a_r_), (2, .int tape), (3, .int to_), (4, .int order)]) hx hb dL_isSort_50 hl (by decide) rfl (fun ls hl => ?_)
  refine lv_aload hx hb dL_isSort_52 (lv_at hl 0 rfl) ?_
  refine va_alen hx hb hK hP 2 0 rfl rfl (v := nI n_27) rfl dL_isSort_54 ?_
  refine lv_aload_n hx hb dL_isSort_55 rfl (lv_at hl 2 rfl) ?_
  refine lv_iload_n hx hb dL_isSort_56 rfl (lv_at hl 4 rfl) ?_
  refine lv_iconst (v := 1) hx hb dL_isSort_57 (by decide) ?_
  obtain ⟨hPs, hDs⟩ := seg_call (segs := [[(a_r_, .inl (g 0, n_r_, .inl r__12))], [(a_q_20, .inl (g 0, n_21, .inl q_22))], [(a_q_26, .inl (g 0, n_27, .inl q_28))], offS ad_24 tp_p_ hd_p_ tf_p_ cf_p_ g o_25]) [[(a_r_, .inl (g 0, n_r_, .inl r__12))], [(a_q_20, .inl (g 0, n_21, .inl q_22))], [(a_q_26, .inl (g 0, n_27, .inl q_28))]] [offS ad_24 tp_p_ hd_p_ tf_p_ cf_p_ g o_25] 4 [0, 1, 2, 3] rfl rfl (by decide) hP hD
  have hPc : va_P (dC, dI) vwCl (offS ad_24 tp_p_ hd_p_ tf_p_ cf_p_ g o_25) H_23 := P_r hPs
  have hDc : va_D A (offS ad_24 tp_p_ hd_p_ tf_p_ cf_p_ g o_25) := D_r hDs
  have hFc : ∀ q, va_A (offS ad_24 tp_p_ hd_p_ tf_p_ cf_p_ g o_25) H_23.size q → A q := A_all hDc hA hS.1
  refine vx_calli (vx_runV (As := [.int tape, .int 1]) (rest := [.int (nI n_27)]) ⟨hx, hb, hml, hown, hts⟩ (p_plan l hlf dC dI g tp_p_ hd_p_ tf_p_ cf_p_ htf_p_ hcf_p_ ad_24 t_p_ had_24 o_25 tape 1 (hw := hw) (sz := H_23.size)) (cwV 2 hts (gqV aw_4_56 aw_4_57 aw_4_58 aw_1_1 aw_4_59) rfl rfl rfl (by decide +kernel) ⟨Nat.le_of_ble_eq_true rfl, Nat.le_of_ble_eq_true rfl⟩) ⟨PG_blind, off_recv had_24 hK hPc, PG_call hK hG hS hPc hDc hFc⟩ rfl rfl hl.1 rfl (lv_room (Nat.le_of_ble_eq_true rfl)) dL_isSort_58 ⟨by rw [hrc]; omega, by rw [hrs]; omega⟩) hS (fun q _ h => hFc q h) hFc (fun q _ h => hFc q h) (fun E ce q9 ux t H1 locs1 ht hvm hp9 hB9 hz hk hS9 hce hcv hcl => ?_) (fun r_29 u_29 t_29 H_29 L_29 ht_29 hvm_29 hw_29 hB_29 hz_29 hk_29 hS => ?_)
  · exact (hB9.1.1).elim
  obtain ⟨ad_30, o_31⟩ := u_29
  obtain ⟨hw, had_30⟩ := hw_29
  rw [ht_29] at hB_29
  obtain ⟨hP1, hD1⟩ := hB_29
  obtain ⟨hP, hD⟩ := join_r hPs hDs hk_29 hFc hP1 hD1
  obtain ⟨hP, hD⟩ := seg_join [[(a_r_, .inl (g 0, n_r_, .inl r__12))], [(a_q_20, .inl (g 0, n_21, .inl q_22))], [(a_q_26, .inl (g 0, n_27, .inl q_28))]] [offS ad_30 tp_p_ hd_p_ tf_p_ cf_p_ g o_31] [[(a_r_, .inl (g 0, n_r_, .inl r__12))], [(a_q_20, .inl (g 0, n_21, .inl q_22))], [(a_q_26, .inl (g 0, n_27, .inl q_28))], offS ad_30 tp_p_ hd_p_ tf_p_ cf_p_ g o_31] 4 [0, 1, 2, 3] rfl rfl (by decide) hP hD
  have hP : va_P (dC, dI) vwCl ([(a_r_, .inl (g 0, n_r_, .inl r__12)), (a_q_20, .inl (g 0, n_21, .inl q_22)), (a_q_26, .inl (g 0, n_27, .inl q_28))] ++ (offS ad_30 tp_p_ hd_p_ tf_p_ cf_p_ g o_31)) H_29 := hP
  have hD : va_D A ([(a_r_, .inl (g 0, n_r_, .inl r__12)), (a_q_20, .inl (g 0, n_21, .inl q_22)), (a_q_26, .inl (g 0, n_27, .inl q_28))] ++ (offS ad_30 tp_p_ hd_p_ tf_p_ cf_p_ g o_31)) := hD
  refine W.widen (k := 3740) (n := 22828) (by omega) (by omega) ?_
  refine lv_iadd hx hb dL_isSort_61 ?_
  refine lv_topi (fun x_32 ex_32 => ?_)
  have hw := hw x_32 ex_32
  refine lv_istore (lv' := [(7, .int x_32), (6, .ref a_q_26), (5, .int r_14), (0, .ref t_p_), (1, .ref a_r_), (2, .int tape), (3, .int to_), (4, .int order)]) hx hb dL_isSort_62 hl (by decide) rfl (fun ls hl => ?_)
  refine lv_aload_n hx hb dL_isSort_64 rfl (lv_at hl 3 rfl) ?_
  refine lv_iload_n hx hb dL_isSort_65 rfl (lv_at hl 5 rfl) ?_
  obtain ⟨hPs, hDs⟩ := seg_call (segs := [[(a_r_, .inl (g 0, n_r_, .inl r__12))], [(a_q_20, .inl (g 0, n_21, .inl q_22))], [(a_q_26, .inl (g 0, n_27, .inl q_28))], offS ad_30 tp_p_ hd_p_ tf_p_ cf_p_ g o_31]) [[(a_r_, .inl (g 0, n_r_, .inl r__12))], [(a_q_20, .inl (g 0, n_21, .inl q_22))], [(a_q_26, .inl (g 0, n_27, .inl q_28))]] [offS ad_30 tp_p_ hd_p_ tf_p_ cf_p_ g o_31] 4 [0, 1, 2, 3] rfl rfl (by decide) hP hD
  have hPc : va_P (dC, dI) vwCl (offS ad_30 tp_p_ hd_p_ tf_p_ cf_p_ g o_31) H_29 := P_r hPs
  have hDc : va_D A (offS ad_30 tp_p_ hd_p_ tf_p_ cf_p_ g o_31) := D_r hDs
  have hFc : ∀ q, va_A (offS ad_30 tp_p_ hd_p_ tf_p_ cf_p_ g o_31) H_29.size q → A q := A_all hDc hA hS.1
  refine vx_calli (vx_runV (As := [.int tape]) (rest := []) ⟨hx, hb, hml, hown, hts⟩ (p_errors l hlf dC dI g tp_p_ hd_p_ tf_p_ cf_p_ htf_p_ hcf_p_ ad_30 t_p_ had_30 o_31 tape (hw := hw) (sz := H_29.size)) (cwV 1 hts (gqV aw_6_27 aw_6_28 aw_6_29 aw_1_1 aw_6_30) rfl rfl rfl (by decide +kernel) ⟨Nat.le_of_ble_eq_true rfl, Nat.le_of_ble_eq_true rfl⟩) ⟨PG_blind, off_recv had_30 hK hPc, PG_call hK hG hS hPc hDc hFc⟩ rfl rfl hl.1 rfl (lv_room (Nat.le_of_ble_eq_true rfl)) dL_isSort_66 ⟨by rw [hrc]; omega, by rw [hrs]; omega⟩) hS (fun q _ h => hFc q h) hFc (fun q _ h => hFc q h) (fun E ce q9 ux t H1 locs1 ht hvm hp9 hB9 hz hk hS9 hce hcv hcl => ?_) (fun r_33 u_33 t_33 H_33 L_33 ht_33 hvm_33 hw_33 hB_33 hz_33 hk_33 hS => ?_)
  · exact (hB9.1.1).elim
  obtain ⟨ad_34, o_35⟩ := u_33
  obtain ⟨hw, had_34⟩ := hw_33
  rw [ht_33] at hB_33
  obtain ⟨hP1, hD1⟩ := hB_33
  obtain ⟨hP, hD⟩ := join_r hPs hDs hk_33 hFc hP1 hD1
  obtain ⟨hP, hD⟩ := seg_join [[(a_r_, .inl (g 0, n_r_, .inl r__12))], [(a_q_20, .inl (g 0, n_21, .inl q_22))], [(a_q_26, .inl (g 0, n_27, .inl q_28))]] [offS ad_34 tp_p_ hd_p_ tf_p_ cf_p_ g o_35] [[(a_r_, .inl (g 0, n_r_, .inl r__12))], [(a_q_20, .inl (g 0, n_21, .inl q_22))], [(a_q_26, .inl (g 0, n_27, .inl q_28))], offS ad_34 tp_p_ hd_p_ tf_p_ cf_p_ g o_35] 4 [0, 1, 2, 3] rfl rfl (by decide) hP hD
  have hP : va_P (dC, dI) vwCl ([(a_r_, .inl (g 0, n_r_, .inl r__12)), (a_q_20, .inl (g 0, n_21, .inl q_22)), (a_q_26, .inl (g 0, n_27, .inl q_28))] ++ (offS ad_34 tp_p_ hd_p_ tf_p_ cf_p_ g o_35)) H_33 := hP
  have hD : va_D A ([(a_r_, .inl (g 0, n_r_, .inl r__12)), (a_q_20, .inl (g 0, n_21, .inl q_22)), (a_q_26, .inl (g 0, n_27, .inl q_28))] ++ (offS ad_34 tp_p_ hd_p_ tf_p_ cf_p_ g o_35)) := hD
  refine W.widen (k := 3741) (n := 22834) (by omega) (by omega) ?_
  refine lv_if_ne (tgt := 96) hx hb dL_isSort_69 (by decide) (fun c_36 => ?_) (fun c_36 => ?_)
  · have hw := hw.2 c_36
    refine lv_iconst (v := 0) hx hb dL_isSort_96 (by decide) ?_
    refine W.widen (k := 3953) (n := 24300) (by omega) (by omega) ?_
    obtain ⟨hP, hD⟩ := seg_sub (segs := [[(a_r_, .inl (g 0, n_r_, .inl r__12))], [(a_q_20, .inl (g 0, n_21, .inl q_22))], [(a_q_26, .inl (g 0, n_27, .inl q_28))], offS ad_34 tp_p_ hd_p_ tf_p_ cf_p_ g o_35]) [[(a_r_, .inl (g 0, n_r_, .inl r__12))], offS ad_34 tp_p_ hd_p_ tf_p_ cf_p_ g o_35] [[(a_q_20, .inl (g 0, n_21, .inl q_22))], [(a_q_26, .inl (g 0, n_27, .inl q_28))]] 4 [0, 3, 1, 2] rfl rfl (by decide) hP hD
    exact W.zret (v := 0) hx hb hr rfl (fun t ht hW => ⟨⟨_, (r__12, ad_34, o_35, ()), rfl, ⟨false, rfl, ⟨hw, had_34⟩⟩, ⟨P_at ht hP, hD⟩⟩, hS.F ht⟩) hS.2.2 dL_isSort_97
  · have hw := hw.1 c_36
    refine lv_aload_n hx hb dL_isSort_72 rfl (lv_at hl 3 rfl) ?_
    refine lv_iload_n hx hb dL_isSort_73 rfl (lv_at hl 5 rfl) ?_
    refine lv_iload_n hx hb dL_isSort_74 rfl (lv_at hl 6 rfl) ?_
    obtain ⟨hPs, hDs⟩ := seg_call (segs := [[(a_r_, .inl (g 0, n_r_, .inl r__12))], [(a_q_20, .inl (g 0, n_21, .inl q_22))], [(a_q_26, .inl (g 0, n_27, .inl q_28))], offS ad_34 tp_p_ hd_p_ tf_p_ cf_p_ g o_35]) [[(a_r_, .inl (g 0, n_r_, .inl r__12))], [(a_q_20, .inl (g 0, n_21, .inl q_22))], [(a_q_26, .inl (g 0, n_27, .inl q_28))]] [offS ad_34 tp_p_ hd_p_ tf_p_ cf_p_ g o_35] 4 [0, 1, 2, 3] rfl rfl (by decide) hP hD
    have hPc : va_P (dC, dI) vwCl (offS ad_34 tp_p_ hd_p_ tf_p_ cf_p_ g o_35) H_33 := P_r hPs
    have hDc : va_D A (offS ad_34 tp_p_ hd_p_ tf_p_ cf_p_ g o_35) := D_r hDs
    have hFc : ∀ q, va_A (offS ad_34 tp_p_ hd_p_ tf_p_ cf_p_ g o_35) H_33.size q → A q := A_all hDc hA hS.1
    refine vx_calli (vx_runV (As := [.int tape, .int to_]) (rest := []) ⟨hx, hb, hml, hown, hts⟩ (p_sort l hlf dC dI g tp_p_ hd_p_ tf_p_ cf_p_ htf_p_ hcf_p_ ad_34 t_p_ had_34 o_35 tape to_ (hw := hw) (sz := H_33.size)) (cwV 2 hts (gqV aw_6_67 aw_6_68 aw_6_69 aw_1_1 aw_6_70) rfl rfl rfl (by decide +kernel) ⟨Nat.le_of_ble_eq_true rfl, Nat.le_of_ble_eq_true rfl⟩) ⟨PG_blind, off_recv had_34 hK hPc, PG_call hK hG hS hPc hDc hFc⟩ rfl rfl hl.1 rfl (lv_room (Nat.le_of_ble_eq_true rfl)) dL_isSort_75 ⟨by rw [hrc]; omega, by rw [hrs]; omega⟩) hS (fun q _ h => hFc q h) hFc (fun q _ h => hFc q h) (fun E ce q9 ux t H1 locs1 ht hvm hp9 hB9 hz hk hS9 hce hcv hcl => ?_) (fun r_37 u_37 t_37 H_37 L_37 ht_37 hvm_37 hw_37 hB_37 hz_37 hk_37 hS => ?_)
    · exact (hB9.1.1).elim
    obtain ⟨ad_38, o_39⟩ := u_37
    obtain ⟨hw, had_38⟩ := hw_37
    rw [ht_37] at hB_37
    obtain ⟨hP1, hD1⟩ := hB_37
    obtain ⟨hP, hD⟩ := join_r hPs hDs hk_37 hFc hP1 hD1
    obtain ⟨hP, hD⟩ := seg_join [[(a_r_, .inl (g 0, n_r_, .inl r__12))], [(a_q_20, .inl (g 0, n_21, .inl q_22))], [(a_q_26, .inl (g 0, n_27, .inl q_28))]] [offS ad_38 tp_p_ hd_p_ tf_p_ cf_p_ g o_39] [[(a_r_, .inl (g 0, n_r_, .inl r__12))], [(a_q_20, .inl (g 0, n_21, .inl q_22))], [(a_q_26, .inl (g 0, n_27, .inl q_28))], offS ad_38 tp_p_ hd_p_ tf_p_ cf_p_ g o_39] 4 [0, 1, 2, 3] rfl rfl (by decide) hP hD
    have hP : va_P (dC, dI) vwCl ([(a_r_, .inl (g 0, n_r_, .inl r__12)), (a_q_20, .inl (g 0, n_21, .inl q_22)), (a_q_26, .inl (g 0, n_27, .inl q_28))] ++ (offS ad_38 tp_p_ hd_p_ tf_p_ cf_p_ g o_39)) H_37 := hP
    have hD : va_D A ([(a_r_, .inl (g 0, n_r_, .inl r__12)), (a_q_20, .inl (g 0, n_21, .inl q_22)), (a_q_26, .inl (g 0, n_27, .inl q_28))] ++ (offS ad_38 tp_p_ hd_p_ tf_p_ cf_p_ g o_39)) := hD
    refine W.widen (k := 3743) (n := 22846) (by omega) (by omega) ?_
    refine lv_iload hx hb dL_isSort_78 (lv_at hl 0 rfl) ?_
    refine lv_icmp_ne (tgt := 96) hx hb dL_isSort_80 (by decide) (fun c_40 => ?_) (fun c_40 => ?_)
    · have hw := hw.2 c_40
      refine lv_iconst (v := 0) hx hb dL_isSort_96 (by decide) ?_
      refine W.widen (k := 3953) (n := 24300) (by omega) (by omega) ?_
      obtain ⟨hP, hD⟩ := seg_sub (segs := [[(a_r_, .inl (g 0, n_r_, .inl r__12))], [(a_q_20, .inl (g 0, n_21, .inl q_22))], [(a_q_26, .inl (g 0, n_27, .inl q_28))], offS ad_38 tp_p_ hd_p_ tf_p_ cf_p_ g o_39]) [[(a_r_, .inl (g 0, n_r_, .inl r__12))], offS ad_38 tp_p_ hd_p_ tf_p_ cf_p_ g o_39] [[(a_q_20, .inl (g 0, n_21, .inl q_22))], [(a_q_26, .inl (g 0, n_27, .inl q_28))]] 4 [0, 3, 1, 2] rfl rfl (by decide) hP hD
      exact W.zret (v := 0) hx hb hr rfl (fun t ht hW => ⟨⟨_, (r__12, ad_38, o_39, ()), rfl, ⟨false, rfl, ⟨hw, had_38⟩⟩, ⟨P_at ht hP, hD⟩⟩, hS.F ht⟩) hS.2.2 dL_isSort_97
    · have hw := hw.1 c_40
      refine lv_aload_n hx hb dL_isSort_83 rfl (lv_at hl 3 rfl) ?_
      refine lv_iload_n hx hb dL_isSort_84 rfl (lv_at hl 6 rfl) ?_
      obtain ⟨hPs, hDs⟩ := seg_call (segs := [[(a_r_, .inl (g 0, n_r_, .inl r__12))], [(a_q_20, .inl (g 0, n_21, .inl q_22))], [(a_q_26, .inl (g 0, n_27, .inl q_28))], offS ad_38 tp_p_ hd_p_ tf_p_ cf_p_ g o_39]) [[(a_r_, .inl (g 0, n_r_, .inl r__12))], [(a_q_20, .inl (g 0, n_21, .inl q_22))], [(a_q_26, .inl (g 0, n_27, .inl q_28))]] [offS ad_38 tp_p_ hd_p_ tf_p_ cf_p_ g o_39] 4 [0, 1, 2, 3] rfl rfl (by decide) hP hD
      have hPc : va_P (dC, dI) vwCl (offS ad_38 tp_p_ hd_p_ tf_p_ cf_p_ g o_39) H_37 := P_r hPs
      have hDc : va_D A (offS ad_38 tp_p_ hd_p_ tf_p_ cf_p_ g o_39) := D_r hDs
      have hFc : ∀ q, va_A (offS ad_38 tp_p_ hd_p_ tf_p_ cf_p_ g o_39) H_37.size q → A q := A_all hDc hA hS.1
      refine va_callq (va_runS (As := [.ref t_p_, .int to_]) (rest := []) ⟨hx, hb, hml, hown, hts⟩ (c_L_tape l hlf dC dI g (tp_p_ := tp_p_) (hd_p_ := hd_p_) (tf_p_ := tf_p_) (cf_p_ := cf_p_) (htf_p_ := htf_p_) (hcf_p_ := hcf_p_) (a_p_ := ad_38) (t_p_ := t_p_) (h_p_ := had_38) (o_p_ := o_39) (tape := to_) (hw := hw) (sz := H_37.size)) (va_cwS 2 hts (gqS aw_3_158 aw_3_159 aw_1_0 aw_3_160) rfl rfl rfl (by decide +kernel) ⟨Nat.le_of_ble_eq_true rfl, Nat.le_of_ble_eq_true rfl⟩) ⟨PG_blind, PG_call hK hG hS hPc hDc hFc⟩ rfl rfl hl.1 rfl (lv_room (Nat.le_of_ble_eq_true rfl)) dL_isSort_85 ⟨by rw [hrc]; omega, by rw [hrs]; omega⟩) hS (fun q _ h => hFc q h) hFc (fun r_41 u_41 t_41 H_41 L_41 ht_41 hvm_41 hw_41 hB_41 hz_41 hk_41 hS => ?_)
      obtain ⟨ad_42, o_43, a_q_44, n_45, q_46, u_41⟩ := u_41
      obtain ⟨rfl, ⟨hw, had_42⟩⟩ := hw_41
      rw [ht_41] at hB_41
      obtain ⟨hP1, hD1⟩ := hB_41
      obtain ⟨hP, hD⟩ := join_r hPs hDs hk_41 hFc hP1 hD1
      obtain ⟨hP, hD⟩ := seg_join [[(a_r_, .inl (g 0, n_r_, .inl r__12))], [(a_q_20, .inl (g 0, n_21, .inl q_22))], [(a_q_26, .inl (g 0, n_27, .inl q_28))]] [[(a_q_44, .inl (g 0, n_45, .inl q_46))], offS ad_42 tp_p_ hd_p_ tf_p_ cf_p_ g o_43] [[(a_r_, .inl (g 0, n_r_, .inl r__12))], [(a_q_20, .inl (g 0, n_21, .inl q_22))], [(a_q_26, .inl (g 0, n_27, .inl q_28))], [(a_q_44, .inl (g 0, n_45, .inl q_46))], offS ad_42 tp_p_ hd_p_ tf_p_ cf_p_ g o_43] 5 [0, 1, 2, 3, 4] rfl rfl (by decide) hP hD
      have hP : va_P (dC, dI) vwCl ([(a_r_, .inl (g 0, n_r_, .inl r__12)), (a_q_20, .inl (g 0, n_21, .inl q_22)), (a_q_26, .inl (g 0, n_27, .inl q_28)), (a_q_44, .inl (g 0, n_45, .inl q_46))] ++ (offS ad_42 tp_p_ hd_p_ tf_p_ cf_p_ g o_43)) H_41 := hP
      have hD : va_D A ([(a_r_, .inl (g 0, n_r_, .inl r__12)), (a_q_20, .inl (g 0, n_21, .inl q_22)), (a_q_26, .inl (g 0, n_27, .inl q_28)), (a_q_44, .inl (g 0, n_45, .inl q_46))] ++ (offS ad_42 tp_p_ hd_p_ tf_p_ cf_p_ g o_43)) := hD
      refine W.widen (k := 3947) (n := 24264) (by omega) (by omega) ?_
      refine lv_aload hx hb dL_isSort_88 (lv_at hl 1 rfl) ?_
      obtain ⟨hPs, hDs⟩ := seg_call (segs := [[(a_r_, .inl (g 0, n_r_, .inl r__12))], [(a_q_20, .inl (g 0, n_21, .inl q_22))], [(a_q_26, .inl (g 0, n_27, .inl q_28))], [(a_q_44, .inl (g 0, n_45, .inl q_46))], offS ad_42 tp_p_ hd_p_ tf_p_ cf_p_ g o_43]) [[(a_r_, .inl (g 0, n_r_, .inl r__12))], [(a_q_20, .inl (g 0, n_21, .inl q_22))], offS ad_42 tp_p_ hd_p_ tf_p_ cf_p_ g o_43] [[(a_q_44, .inl (g 0, n_45, .inl q_46))], [(a_q_26, .inl (g 0, n_27, .inl q_28))]] 5 [0, 1, 4, 3, 2] rfl rfl (by decide) hP hD
      have hPc : va_P (dC, dI) vwCl [(a_q_44, .inl (g 0, n_45, .inl q_46)), (a_q_26, .inl (g 0, n_27, .inl q_28))] H_41 := P_r hPs
      have hDc : va_D A [(a_q_44, .inl (g 0, n_45, .inl q_46)), (a_q_26, .inl (g 0, n_27, .inl q_28))] := D_r hDs
      have hFc : ∀ q, va_A [(a_q_44, .inl (g 0, n_45, .inl q_46)), (a_q_26, .inl (g 0, n_27, .inl q_28))] H_41.size q → A q := A_all hDc hA hS.1
      refine va_calli (va_runS (As := [.ref a_q_44, .ref a_q_26]) (rest := []) ⟨hx, hb, hml, hown, hts⟩ (c_L_same l hlf dC dI g (a_a_ := a_q_44) (n_a_ := n_45) (a_ := q_46) (a_b_ := a_q_26) (n_b_ := n_27) (b_ := q_28) (hw := hw) (sz := H_41.size)) (va_cwS 2 hts (gqS aw_4_42 aw_4_43 aw_1_0 aw_4_44) rfl rfl rfl (by decide +kernel) ⟨Nat.le_of_ble_eq_true rfl, Nat.le_of_ble_eq_true rfl⟩) ⟨PG_blind, PG_call hK hG hS hPc hDc hFc⟩ rfl rfl hl.1 rfl (lv_room (Nat.le_of_ble_eq_true rfl)) dL_isSort_90 ⟨by rw [hrc]; omega, by rw [hrs]; omega⟩) hS (fun q _ h => hFc q h) hFc (fun r_47 u_47 t_47 H_47 L_47 ht_47 hvm_47 hw_47 hB_47 hz_47 hk_47 hS => ?_)
      obtain ⟨u_47⟩ := u_47
      obtain ⟨b_47, rfl, hw⟩ := hw_47
      rw [ht_47] at hB_47
      obtain ⟨hP1, hD1⟩ := hB_47
      obtain ⟨hP, hD⟩ := join_r hPs hDs hk_47 hFc hP1 hD1
      obtain ⟨hP, hD⟩ := seg_join [[(a_r_, .inl (g 0, n_r_, .inl r__12))], [(a_q_20, .inl (g 0, n_21, .inl q_22))], offS ad_42 tp_p_ hd_p_ tf_p_ cf_p_ g o_43] [[(a_q_44, .inl (g 0, n_45, .inl q_46))], [(a_q_26, .inl (g 0, n_27, .inl q_28))]] [[(a_r_, .inl (g 0, n_r_, .inl r__12))], [(a_q_20, .inl (g 0, n_21, .inl q_22))], [(a_q_26, .inl (g 0, n_27, .inl q_28))], [(a_q_44, .inl (g 0, n_45, .inl q_46))], offS ad_42 tp_p_ hd_p_ tf_p_ cf_p_ g o_43] 5 [0, 1, 4, 3, 2] rfl rfl (by decide) hP hD
      have hP : va_P (dC, dI) vwCl ([(a_r_, .inl (g 0, n_r_, .inl r__12)), (a_q_20, .inl (g 0, n_21, .inl q_22)), (a_q_26, .inl (g 0, n_27, .inl q_28)), (a_q_44, .inl (g 0, n_45, .inl q_46))] ++ (offS ad_42 tp_p_ hd_p_ tf_p_ cf_p_ g o_43)) H_47 := hP
      have hD : va_D A ([(a_r_, .inl (g 0, n_r_, .inl r__12)), (a_q_20, .inl (g 0, n_21, .inl q_22)), (a_q_26, .inl (g 0, n_27, .inl q_28)), (a_q_44, .inl (g 0, n_45, .inl q_46))] ++ (offS ad_42 tp_p_ hd_p_ tf_p_ cf_p_ g o_43)) := hD
      refine W.widen (k := 3947) (n := 24264) (by omega) (by omega) ?_
      refine lv_if_ne (tgt := 98) hx hb dL_isSort_93 (by decide) (fun c_48 => ?_) (fun c_48 => ?_)
      · have hw := hw.2 (b2i_1 c_48)
        refine lv_aload_n hx hb dL_isSort_98 rfl (lv_at hl 3 rfl) ?_
        refine lv_iload_n hx hb dL_isSort_99 rfl (lv_at hl 6 rfl) ?_
        refine lv_iload hx hb dL_isSort_100 (lv_at hl 7 rfl) ?_
        obtain ⟨hPs, hDs⟩ := seg_call (segs := [[(a_r_, .inl (g 0, n_r_, .inl r__12))], [(a_q_20, .inl (g 0, n_21, .inl q_22))], [(a_q_26, .inl (g 0, n_27, .inl q_28))], [(a_q_44, .inl (g 0, n_45, .inl q_46))], offS ad_42 tp_p_ hd_p_ tf_p_ cf_p_ g o_43]) [[(a_r_, .inl (g 0, n_r_, .inl r__12))], [(a_q_20, .inl (g 0, n_21, .inl q_22))], [(a_q_26, .inl (g 0, n_27, .inl q_28))], [(a_q_44, .inl (g 0, n_45, .inl q_46))]] [offS ad_42 tp_p_ hd_p_ tf_p_ cf_p_ g o_43] 5 [0, 1, 2, 3, 4] rfl rfl (by decide) hP hD
        have hPc : va_P (dC, dI) vwCl (offS ad_42 tp_p_ hd_p_ tf_p_ cf_p_ g o_43) H_47 := P_r hPs
        have hDc : va_D A (offS ad_42 tp_p_ hd_p_ tf_p_ cf_p_ g o_43) := D_r hDs
        have hFc : ∀ q, va_A (offS ad_42 tp_p_ hd_p_ tf_p_ cf_p_ g o_43) H_47.size q → A q := A_all hDc hA hS.1
        refine vx_calli (vx_runV (As := [.int to_, .int order]) (rest := []) ⟨hx, hb, hml, hown, hts⟩ (p_isSorted l hlf dC dI g tp_p_ hd_p_ tf_p_ cf_p_ htf_p_ hcf_p_ ad_42 t_p_ had_42 o_43 to_ order (hw := hw) (sz := H_47.size)) (cwV 2 hts (gqV aw_5_228 aw_5_229 aw_5_230 aw_1_1 aw_5_231) rfl rfl rfl (by decide +kernel) ⟨Nat.le_of_ble_eq_true rfl, Nat.le_of_ble_eq_true rfl⟩) ⟨PG_blind, off_recv had_42 hK hPc, PG_call hK hG hS hPc hDc hFc⟩ rfl rfl hl.1 rfl (lv_room (Nat.le_of_ble_eq_true rfl)) dL_isSort_102 ⟨by rw [hrc]; omega, by rw [hrs]; omega⟩) hS (fun q _ h => hFc q h) hFc (fun q _ h => hFc q h) (fun E ce q9 ux t H1 locs1 ht hvm hp9 hB9 hz hk hS9 hce hcv hcl => ?_) (fun r_49 u_49 t_49 H_49 L_49 ht_49 hvm_49 hw_49 hB_49 hz_49 hk_49 hS => ?_)
        · exact (hB9.1.1).elim
        obtain ⟨ad_50, o_51⟩ := u_49
        obtain ⟨b_49, rfl, ⟨hw, had_50⟩⟩ := hw_49
        rw [ht_49] at hB_49
        obtain ⟨hP1, hD1⟩ := hB_49
        obtain ⟨hP, hD⟩ := join_r hPs hDs hk_49 hFc hP1 hD1
        obtain ⟨hP, hD⟩ := seg_join [[(a_r_, .inl (g 0, n_r_, .inl r__12))], [(a_q_20, .inl (g 0, n_21, .inl q_22))], [(a_q_26, .inl (g 0, n_27, .inl q_28))], [(a_q_44, .inl (g 0, n_45, .inl q_46))]] [offS ad_50 tp_p_ hd_p_ tf_p_ cf_p_ g o_51] [[(a_r_, .inl (g 0, n_r_, .inl r__12))], [(a_q_20, .inl (g 0, n_21, .inl q_22))], [(a_q_26, .inl (g 0, n_27, .inl q_28))], [(a_q_44, .inl (g 0, n_45, .inl q_46))], offS ad_50 tp_p_ hd_p_ tf_p_ cf_p_ g o_51] 5 [0, 1, 2, 3, 4] rfl rfl (by decide) hP hD
        have hP : va_P (dC, dI) vwCl ([(a_r_, .inl (g 0, n_r_, .inl r__12)), (a_q_20, .inl (g 0, n_21, .inl q_22)), (a_q_26, .inl (g 0, n_27, .inl q_28)), (a_q_44, .inl (g 0, n_45, .inl q_46))] ++ (offS ad_50 tp_p_ hd_p_ tf_p_ cf_p_ g o_51)) H_49 := hP
        have hD : va_D A ([(a_r_, .inl (g 0, n_r_, .inl r__12)), (a_q_20, .inl (g 0, n_21, .inl q_22)), (a_q_26, .inl (g 0, n_27, .inl q_28)), (a_q_44, .inl (g 0, n_45, .inl q_46))] ++ (offS ad_50 tp_p_ hd_p_ tf_p_ cf_p_ g o_51)) := hD
        refine W.widen (k := 3949) (n := 24276) (by omega) (by omega) ?_
        refine lv_if_eq (tgt := 153) hx hb dL_isSort_105 (by decide) (fun c_52 => ?_) (fun c_52 => ?_)
        · have hw := hw.1 (b2i_0 c_52)
          refine lv_iconst (v := 0) hx hb dL_isSort_153 (by decide) ?_
          refine W.widen (k := 3953) (n := 24300) (by omega) (by omega) ?_
          obtain ⟨hP, hD⟩ := seg_sub (segs := [[(a_r_, .inl (g 0, n_r_, .inl r__12))], [(a_q_20, .inl (g 0, n_21, .inl q_22))], [(a_q_26, .inl (g 0, n_27, .inl q_28))], [(a_q_44, .inl (g 0, n_45, .inl q_46))], offS ad_50 tp_p_ hd_p_ tf_p_ cf_p_ g o_51]) [[(a_r_, .inl (g 0, n_r_, .inl r__12))], offS ad_50 tp_p_ hd_p_ tf_p_ cf_p_ g o_51] [[(a_q_20, .inl (g 0, n_21, .inl q_22))], [(a_q_26, .inl (g 0, n_27, .inl q_28))], [(a_q_44, .inl (g 0, n_45, .inl q_46))]] 5 [0, 4, 1, 2, 3] rfl rfl (by decide) hP hD
          exact W.zret (v := 0) hx hb hr rfl (fun t ht hW => ⟨⟨_, (r__12, ad_50, o_51, ()), rfl, ⟨false, rfl, ⟨hw, had_50⟩⟩, ⟨P_at ht hP, hD⟩⟩, hS.F ht⟩) hS.2.2 dL_isSort_154
        · have hw := hw.2 (b2i_1 c_52)
          refine lv_aload_n hx hb dL_isSort_108 rfl (lv_at hl 3 rfl) ?_
          refine lv_iload_n hx hb dL_isSort_109 rfl (lv_at hl 6 rfl) ?_
          obtain ⟨hPs, hDs⟩ := seg_call (segs := [[(a_r_, .inl (g 0, n_r_, .inl r__12))], [(a_q_20, .inl (g 0, n_21, .inl q_22))], [(a_q_26, .inl (g 0, n_27, .inl q_28))], [(a_q_44, .inl (g 0, n_45, .inl q_46))], offS ad_50 tp_p_ hd_p_ tf_p_ cf_p_ g o_51]) [[(a_r_, .inl (g 0, n_r_, .inl r__12))], [(a_q_20, .inl (g 0, n_21, .inl q_22))], [(a_q_26, .inl (g 0, n_27, .inl q_28))], [(a_q_44, .inl (g 0, n_45, .inl q_46))]] [offS ad_50 tp_p_ hd_p_ tf_p_ cf_p_ g o_51] 5 [0, 1, 2, 3, 4] rfl rfl (by decide) hP hD
          have hPc : va_P (dC, dI) vwCl (offS ad_50 tp_p_ hd_p_ tf_p_ cf_p_ g o_51) H_49 := P_r hPs
          have hDc : va_D A (offS ad_50 tp_p_ hd_p_ tf_p_ cf_p_ g o_51) := D_r hDs
          have hFc : ∀ q, va_A (offS ad_50 tp_p_ hd_p_ tf_p_ cf_p_ g o_51) H_49.size q → A q := A_all hDc hA hS.1
          refine vx_calli (vx_runV (As := [.int to_]) (rest := []) ⟨hx, hb, hml, hown, hts⟩ (p_runs l hlf dC dI g tp_p_ hd_p_ tf_p_ cf_p_ htf_p_ hcf_p_ ad_50 t_p_ had_50 o_51 to_ (hw := hw) (sz := H_49.size)) (cwV 1 hts (gqV aw_3_177 aw_3_178 aw_3_179 aw_1_1 aw_3_180) rfl rfl rfl (by decide +kernel) ⟨Nat.le_of_ble_eq_true rfl, Nat.le_of_ble_eq_true rfl⟩) ⟨PG_blind, off_recv had_50 hK hPc, PG_call hK hG hS hPc hDc hFc⟩ rfl rfl hl.1 rfl (lv_room (Nat.le_of_ble_eq_true rfl)) dL_isSort_110 ⟨by rw [hrc]; omega, by rw [hrs]; omega⟩) hS (fun q _ h => hFc q h) hFc (fun q _ h => hFc q h) (fun E ce q9 ux t H1 locs1 ht hvm hp9 hB9 hz hk hS9 hce hcv hcl => ?_) (fun r_53 u_53 t_53 H_53 L_53 ht_53 hvm_53 hw_53 hB_53 hz_53 hk_53 hS => ?_)
          · exact (hB9.1.1).elim
          obtain ⟨ad_54, o_55⟩ := u_53
          obtain ⟨hw, had_54⟩ := hw_53
          rw [ht_53] at hB_53
          obtain ⟨hP1, hD1⟩ := hB_53
          obtain ⟨hP, hD⟩ := join_r hPs hDs hk_53 hFc hP1 hD1
          obtain ⟨hP, hD⟩ := seg_join [[(a_r_, .inl (g 0, n_r_, .inl r__12))], [(a_q_20, .inl (g 0, n_21, .inl q_22))], [(a_q_26, .inl (g 0, n_27, .inl q_28))], [(a_q_44, .inl (g 0, n_45, .inl q_46))]] [offS ad_54 tp_p_ hd_p_ tf_p_ cf_p_ g o_55] [[(a_r_, .inl (g 0, n_r_, .inl r__12))], [(a_q_20, .inl (g 0, n_21, .inl q_22))], [(a_q_26, .inl (g 0, n_27, .inl q_28))], [(a_q_44, .inl (g 0, n_45, .inl q_46))], offS ad_54 tp_p_ hd_p_ tf_p_ cf_p_ g o_55] 5 [0, 1, 2, 3, 4] rfl rfl (by decide) hP hD
          have hP : va_P (dC, dI) vwCl ([(a_r_, .inl (g 0, n_r_, .inl r__12)), (a_q_20, .inl (g 0, n_21, .inl q_22)), (a_q_26, .inl (g 0, n_27, .inl q_28)), (a_q_44, .inl (g 0, n_45, .inl q_46))] ++ (offS ad_54 tp_p_ hd_p_ tf_p_ cf_p_ g o_55)) H_53 := hP
          have hD : va_D A ([(a_r_, .inl (g 0, n_r_, .inl r__12)), (a_q_20, .inl (g 0, n_21, .inl q_22)), (a_q_26, .inl (g 0, n_27, .inl q_28)), (a_q_44, .inl (g 0, n_45, .inl q_46))] ++ (offS ad_54 tp_p_ hd_p_ tf_p_ cf_p_ g o_55)) := hD
          refine W.widen (k := 3950) (n := 24282) (by omega) (by omega) ?_
          refine lv_iconst (v := 1) hx hb dL_isSort_113 (by decide) ?_
          refine lv_aload_n hx hb dL_isSort_114 rfl (lv_at hl 3 rfl) ?_
          refine lv_iconst (v := 1) hx hb dL_isSort_115 (by decide) ?_
          obtain ⟨hPs, hDs⟩ := seg_call (segs := [[(a_r_, .inl (g 0, n_r_, .inl r__12))], [(a_q_20, .inl (g 0, n_21, .inl q_22))], [(a_q_26, .inl (g 0, n_27, .inl q_28))], [(a_q_44, .inl (g 0, n_45, .inl q_46))], offS ad_54 tp_p_ hd_p_ tf_p_ cf_p_ g o_55]) [[(a_r_, .inl (g 0, n_r_, .inl r__12))], [(a_q_20, .inl (g 0, n_21, .inl q_22))], [(a_q_26, .inl (g 0, n_27, .inl q_28))], [(a_q_44, .inl (g 0, n_45, .inl q_46))]] [offS ad_54 tp_p_ hd_p_ tf_p_ cf_p_ g o_55] 5 [0, 1, 2, 3, 4] rfl rfl (by decide) hP hD
          have hPc : va_P (dC, dI) vwCl (offS ad_54 tp_p_ hd_p_ tf_p_ cf_p_ g o_55) H_53 := P_r hPs
          have hDc : va_D A (offS ad_54 tp_p_ hd_p_ tf_p_ cf_p_ g o_55) := D_r hDs
          have hFc : ∀ q, va_A (offS ad_54 tp_p_ hd_p_ tf_p_ cf_p_ g o_55) H_53.size q → A q := A_all hDc hA hS.1
          refine vx_calli (vx_runV (As := [.int 1]) (rest := [.int 1, .int r_53]) ⟨hx, hb, hml, hown, hts⟩ (p_setting l hlf dC dI g tp_p_ hd_p_ tf_p_ cf_p_ htf_p_ hcf_p_ ad_54 t_p_ had_54 o_55 1 (hw := hw) (sz := H_53.size)) (cwV 1 hts (gqV aw_6_71 aw_6_72 aw_6_73 aw_1_1 aw_6_74) rfl rfl rfl (by decide +kernel) ⟨Nat.le_of_ble_eq_true rfl, Nat.le_of_ble_eq_true rfl⟩) ⟨PG_blind, off_recv had_54 hK hPc, PG_call hK hG hS hPc hDc hFc⟩ rfl rfl hl.1 rfl (lv_room (Nat.le_of_ble_eq_true rfl)) dL_isSort_116 ⟨by rw [hrc]; omega, by rw [hrs]; omega⟩) hS (fun q _ h => hFc q h) hFc (fun q _ h => hFc q h) (fun E ce q9 ux t H1 locs1 ht hvm hp9 hB9 hz hk hS9 hce hcv hcl => ?_) (fun r_56 u_56 t_56 H_56 L_56 ht_56 hvm_56 hw_56 hB_56 hz_56 hk_56 hS => ?_)
          · exact (hB9.1.1).elim
          obtain ⟨ad_57, o_58⟩ := u_56
          obtain ⟨hw, had_57⟩ := hw_56
          rw [ht_56] at hB_56
          obtain ⟨hP1, hD1⟩ := hB_56
          obtain ⟨hP, hD⟩ := join_r hPs hDs hk_56 hFc hP1 hD1
          obtain ⟨hP, hD⟩ := seg_join [[(a_r_, .inl (g 0, n_r_, .inl r__12))], [(a_q_20, .inl (g 0, n_21, .inl q_22))], [(a_q_26, .inl (g 0, n_27, .inl q_28))], [(a_q_44, .inl (g 0, n_45, .inl q_46))]] [offS ad_57 tp_p_ hd_p_ tf_p_ cf_p_ g o_58] [[(a_r_, .inl (g 0, n_r_, .inl r__12))], [(a_q_20, .inl (g 0, n_21, .inl q_22))], [(a_q_26, .inl (g 0, n_27, .inl q_28))], [(a_q_44, .inl (g 0, n_45, .inl q_46))], offS ad_57 tp_p_ hd_p_ tf_p_ cf_p_ g o_58] 5 [0, 1, 2, 3, 4] rfl rfl (by decide) hP hD
          have hP : va_P (dC, dI) vwCl ([(a_r_, .inl (g 0, n_r_, .inl r__12)), (a_q_20, .inl (g 0, n_21, .inl q_22)), (a_q_26, .inl (g 0, n_27, .inl q_28)), (a_q_44, .inl (g 0, n_45, .inl q_46))] ++ (offS ad_57 tp_p_ hd_p_ tf_p_ cf_p_ g o_58)) H_56 := hP
          have hD : va_D A ([(a_r_, .inl (g 0, n_r_, .inl r__12)), (a_q_20, .inl (g 0, n_21, .inl q_22)), (a_q_26, .inl (g 0, n_27, .inl q_28)), (a_q_44, .inl (g 0, n_45, .inl q_46))] ++ (offS ad_57 tp_p_ hd_p_ tf_p_ cf_p_ g o_58)) := hD
          refine W.widen (k := 3951) (n := 24288) (by omega) (by omega) ?_
          refine W_abs (fun QM hQM => ?_)
          have JN143 : ∀ (sk0_59 : Int32) (o_60 : OS) (ad_61 : Nat → Nat) (had_61 : ad_61 0 = t_p_) (H : Heap) (locs : List Loc), (wj_L_isSort_143 Q r__12 r_53) sk0_59 o_60 → va_P (dC, dI) vwCl ([(a_r_, .inl (g 0, n_r_, .inl r__12))] ++ (offS ad_61 tp_p_ hd_p_ tf_p_ cf_p_ g o_60)) H → va_D A ([(a_r_, .inl (g 0, n_r_, .inl r__12))] ++ (offS ad_61 tp_p_ hd_p_ tf_p_ cf_p_ g o_60)) → va_S A s.heap H locs → ∀ (ls : Array Slot), lv_has ls 8 [] → W p l e (headSpec wqL_isSort ({ frames := 10, cells := 3953, slots := 24300, locals := 200 })).room s m ([.ref t_p_, .ref a_r_, .int tape, .int to_, .int order] : List Value).toArray below meth c H locs 3953 24300 QM (F0 m 143 ls [.int sk0_59, .int 1, .int r_53]) := by
            intro sk0_59 o_60 ad_61 had_61 H locs hw hP hD hS ls hl
            refine va_mmax hx hb (hml.trans hl.1.symm) hown hmmax177_0 hmmax177_1 hmmax177_2 hmmax177_3 (Nat.le_of_ble_eq_true rfl) (Nat.le_of_ble_eq_true rfl) (by rw [hrc]; omega) (by rw [hrs]; omega) dL_isSort_143 ?_
            refine lv_topi (fun x_62 ex_62 => ?_)
            have hw := hw x_62 ex_62
            refine lv_icmp_gt (tgt := 153) hx hb dL_isSort_146 (by decide) (fun c_63 => ?_) (fun c_63 => ?_)
            · have hw := hw.1 c_63
              refine lv_iconst (v := 0) hx hb dL_isSort_153 (by decide) ?_
              refine W.widen (k := 3953) (n := 24300) (by omega) (by omega) ?_
              subst hQM
              exact W.zret (v := 0) hx hb hr rfl (fun t ht hW => ⟨⟨_, (r__12, ad_61, o_60, ()), rfl, ⟨false, rfl, ⟨hw, had_61⟩⟩, ⟨P_at ht hP, hD⟩⟩, hS.F ht⟩) hS.2.2 dL_isSort_154
            · have hw := hw.2 c_63
              refine lv_iconst (v := 1) hx hb dL_isSort_149 (by decide) ?_
              refine lv_goto (tgt := 154) hx hb dL_isSort_150 (by decide) ?_
              refine W.widen (k := 3953) (n := 24300) (by omega) (by omega) ?_
              subst hQM
              exact W.zret (v := 1) hx hb hr rfl (fun t ht hW => ⟨⟨_, (r__12, ad_61, o_60, ()), rfl, ⟨true, rfl, ⟨hw, had_61⟩⟩, ⟨P_at ht hP, hD⟩⟩, hS.F ht⟩) hS.2.2 dL_isSort_154
          refine lv_if_ne (tgt := 142) hx hb dL_isSort_119 (by decide) (fun c_64 => ?_) (fun c_64 => ?_)
          · have hw := hw.2 c_64
            refine lv_iconst (v := 1) hx hb dL_isSort_142 (by decide) ?_
            obtain ⟨hP, hD⟩ := seg_sub (segs := [[(a_r_, .inl (g 0, n_r_, .inl r__12))], [(a_q_20, .inl (g 0, n_21, .inl q_22))], [(a_q_26, .inl (g 0, n_27, .inl q_28))], [(a_q_44, .inl (g 0, n_45, .inl q_46))], offS ad_57 tp_p_ hd_p_ tf_p_ cf_p_ g o_58]) [[(a_r_, .inl (g 0, n_r_, .inl r__12))], offS ad_57 tp_p_ hd_p_ tf_p_ cf_p_ g o_58] [[(a_q_20, .inl (g 0, n_21, .inl q_22))], [(a_q_26, .inl (g 0, n_27, .inl q_28))], [(a_q_44, .inl (g 0, n_45, .inl q_46))]] 5 [0, 4, 1, 2, 3] rfl rfl (by decide) hP hD
            refine W.widen (k := 3953) (n := 24300) (by omega) (by omega) ?_
            exact JN143 1 o_58 ad_57 had_57 _ _ hw hP hD hS _ (lv_sub hl [] rfl)
          · have hw := hw.1 c_64
            refine lv_aload hx hb dL_isSort_122 (lv_at hl 1 rfl) ?_
            refine va_alen hx hb hK hP 2 0 rfl rfl (v := nI n_27) rfl dL_isSort_124 ?_
            refine lv_aload_n hx hb dL_isSort_125 rfl (lv_at hl 3 rfl) ?_
            refine lv_iconst (v := 2) hx hb dL_isSort_126 (by decide) ?_
            obtain ⟨hPs, hDs⟩ := seg_call (segs := [[(a_r_, .inl (g 0, n_r_, .inl r__12))], [(a_q_20, .inl (g 0, n_21, .inl q_22))], [(a_q_26, .inl (g 0, n_27, .inl q_28))], [(a_q_44, .inl (g 0, n_45, .inl q_46))], offS ad_57 tp_p_ hd_p_ tf_p_ cf_p_ g o_58]) [[(a_r_, .inl (g 0, n_r_, .inl r__12))], [(a_q_20, .inl (g 0, n_21, .inl q_22))], [(a_q_26, .inl (g 0, n_27, .inl q_28))], [(a_q_44, .inl (g 0, n_45, .inl q_46))]] [offS ad_57 tp_p_ hd_p_ tf_p_ cf_p_ g o_58] 5 [0, 1, 2, 3, 4] rfl rfl (by decide) hP hD
            have hPc : va_P (dC, dI) vwCl (offS ad_57 tp_p_ hd_p_ tf_p_ cf_p_ g o_58) H_56 := P_r hPs
            have hDc : va_D A (offS ad_57 tp_p_ hd_p_ tf_p_ cf_p_ g o_58) := D_r hDs
            have hFc : ∀ q, va_A (offS ad_57 tp_p_ hd_p_ tf_p_ cf_p_ g o_58) H_56.size q → A q := A_all hDc hA hS.1
            refine vx_calli (vx_runV (As := [.int 2]) (rest := [.int (nI n_27), .int 1, .int r_53]) ⟨hx, hb, hml, hown, hts⟩ (p_setting l hlf dC dI g tp_p_ hd_p_ tf_p_ cf_p_ htf_p_ hcf_p_ ad_57 t_p_ had_57 o_58 2 (hw := hw) (sz := H_56.size)) (cwV 1 hts (gqV aw_6_71 aw_6_72 aw_6_73 aw_1_1 aw_6_74) rfl rfl rfl (by decide +kernel) ⟨Nat.le_of_ble_eq_true rfl, Nat.le_of_ble_eq_true rfl⟩) ⟨PG_blind, off_recv had_57 hK hPc, PG_call hK hG hS hPc hDc hFc⟩ rfl rfl hl.1 rfl (lv_room (Nat.le_of_ble_eq_true rfl)) dL_isSort_127 ⟨by rw [hrc]; omega, by rw [hrs]; omega⟩) hS (fun q _ h => hFc q h) hFc (fun q _ h => hFc q h) (fun E ce q9 ux t H1 locs1 ht hvm hp9 hB9 hz hk hS9 hce hcv hcl => ?_) (fun r_65 u_65 t_65 H_65 L_65 ht_65 hvm_65 hw_65 hB_65 hz_65 hk_65 hS => ?_)
            · exact (hB9.1.1).elim
            obtain ⟨ad_66, o_67⟩ := u_65
            obtain ⟨hw, had_66⟩ := hw_65
            rw [ht_65] at hB_65
            obtain ⟨hP1, hD1⟩ := hB_65
            obtain ⟨hP, hD⟩ := join_r hPs hDs hk_65 hFc hP1 hD1
            obtain ⟨hP, hD⟩ := seg_join [[(a_r_, .inl (g 0, n_r_, .inl r__12))], [(a_q_20, .inl (g 0, n_21, .inl q_22))], [(a_q_26, .inl (g 0, n_27, .inl q_28))], [(a_q_44, .inl (g 0, n_45, .inl q_46))]] [offS ad_66 tp_p_ hd_p_ tf_p_ cf_p_ g o_67] [[(a_r_, .inl (g 0, n_r_, .inl r__12))], [(a_q_20, .inl (g 0, n_21, .inl q_22))], [(a_q_26, .inl (g 0, n_27, .inl q_28))], [(a_q_44, .inl (g 0, n_45, .inl q_46))], offS ad_66 tp_p_ hd_p_ tf_p_ cf_p_ g o_67] 5 [0, 1, 2, 3, 4] rfl rfl (by decide) hP hD
            have hP : va_P (dC, dI) vwCl ([(a_r_, .inl (g 0, n_r_, .inl r__12)), (a_q_20, .inl (g 0, n_21, .inl q_22)), (a_q_26, .inl (g 0, n_27, .inl q_28)), (a_q_44, .inl (g 0, n_45, .inl q_46))] ++ (offS ad_66 tp_p_ hd_p_ tf_p_ cf_p_ g o_67)) H_65 := hP
            have hD : va_D A ([(a_r_, .inl (g 0, n_r_, .inl r__12)), (a_q_20, .inl (g 0, n_21, .inl q_22)), (a_q_26, .inl (g 0, n_27, .inl q_28)), (a_q_44, .inl (g 0, n_45, .inl q_46))] ++ (offS ad_66 tp_p_ hd_p_ tf_p_ cf_p_ g o_67)) := hD
            refine W.widen (k := 3952) (n := 24294) (by omega) (by omega) ?_
            refine lv_iadd hx hb dL_isSort_130 ?_
            refine lv_topi (fun x_68 ex_68 => ?_)
            have hw := hw x_68 ex_68
            refine lv_iconst (v := 1) hx hb dL_isSort_131 (by decide) ?_
            refine lv_isub hx hb dL_isSort_132 ?_
            refine lv_topi (fun x_69 ex_69 => ?_)
            have hw := hw x_69 ex_69
            refine lv_aload_n hx hb dL_isSort_133 rfl (lv_at hl 3 rfl) ?_
            refine lv_iconst (v := 2) hx hb dL_isSort_134 (by decide) ?_
            obtain ⟨hPs, hDs⟩ := seg_call (segs := [[(a_r_, .inl (g 0, n_r_, .inl r__12))], [(a_q_20, .inl (g 0, n_21, .inl q_22))], [(a_q_26, .inl (g 0, n_27, .inl q_28))], [(a_q_44, .inl (g 0, n_45, .inl q_46))], offS ad_66 tp_p_ hd_p_ tf_p_ cf_p_ g o_67]) [[(a_r_, .inl (g 0, n_r_, .inl r__12))], [(a_q_20, .inl (g 0, n_21, .inl q_22))], [(a_q_26, .inl (g 0, n_27, .inl q_28))], [(a_q_44, .inl (g 0, n_45, .inl q_46))]] [offS ad_66 tp_p_ hd_p_ tf_p_ cf_p_ g o_67] 5 [0, 1, 2, 3, 4] rfl rfl (by decide) hP hD
            have hPc : va_P (dC, dI) vwCl (offS ad_66 tp_p_ hd_p_ tf_p_ cf_p_ g o_67) H_65 := P_r hPs
            have hDc : va_D A (offS ad_66 tp_p_ hd_p_ tf_p_ cf_p_ g o_67) := D_r hDs
            have hFc : ∀ q, va_A (offS ad_66 tp_p_ hd_p_ tf_p_ cf_p_ g o_67) H_65.size q → A q := A_all hDc hA hS.1
            refine vx_calli (vx_runV (As := [.int 2]) (rest := [.int x_69, .int 1, .int r_53]) ⟨hx, hb, hml, hown, hts⟩ (p_setting l hlf dC dI g tp_p_ hd_p_ tf_p_ cf_p_ htf_p_ hcf_p_ ad_66 t_p_ had_66 o_67 2 (hw := hw) (sz := H_65.size)) (cwV 1 hts (gqV aw_6_71 aw_6_72 aw_6_73 aw_1_1 aw_6_74) rfl rfl rfl (by decide +kernel) ⟨Nat.le_of_ble_eq_true rfl, Nat.le_of_ble_eq_true rfl⟩) ⟨PG_blind, off_recv had_66 hK hPc, PG_call hK hG hS hPc hDc hFc⟩ rfl rfl hl.1 rfl (lv_room (Nat.le_of_ble_eq_true rfl)) dL_isSort_135 ⟨by rw [hrc]; omega, by rw [hrs]; omega⟩) hS (fun q _ h => hFc q h) hFc (fun q _ h => hFc q h) (fun E ce q9 ux t H1 locs1 ht hvm hp9 hB9 hz hk hS9 hce hcv hcl => ?_) (fun r_70 u_70 t_70 H_70 L_70 ht_70 hvm_70 hw_70 hB_70 hz_70 hk_70 hS => ?_)
            · exact (hB9.1.1).elim
            obtain ⟨ad_71, o_72⟩ := u_70
            obtain ⟨hw, had_71⟩ := hw_70
            rw [ht_70] at hB_70
            obtain ⟨hP1, hD1⟩ := hB_70
            obtain ⟨hP, hD⟩ := join_r hPs hDs hk_70 hFc hP1 hD1
            obtain ⟨hP, hD⟩ := seg_join [[(a_r_, .inl (g 0, n_r_, .inl r__12))], [(a_q_20, .inl (g 0, n_21, .inl q_22))], [(a_q_26, .inl (g 0, n_27, .inl q_28))], [(a_q_44, .inl (g 0, n_45, .inl q_46))]] [offS ad_71 tp_p_ hd_p_ tf_p_ cf_p_ g o_72] [[(a_r_, .inl (g 0, n_r_, .inl r__12))], [(a_q_20, .inl (g 0, n_21, .inl q_22))], [(a_q_26, .inl (g 0, n_27, .inl q_28))], [(a_q_44, .inl (g 0, n_45, .inl q_46))], offS ad_71 tp_p_ hd_p_ tf_p_ cf_p_ g o_72] 5 [0, 1, 2, 3, 4] rfl rfl (by decide) hP hD
            have hP : va_P (dC, dI) vwCl ([(a_r_, .inl (g 0, n_r_, .inl r__12)), (a_q_20, .inl (g 0, n_21, .inl q_22)), (a_q_26, .inl (g 0, n_27, .inl q_28)), (a_q_44, .inl (g 0, n_45, .inl q_46))] ++ (offS ad_71 tp_p_ hd_p_ tf_p_ cf_p_ g o_72)) H_70 := hP
            have hD : va_D A ([(a_r_, .inl (g 0, n_r_, .inl r__12)), (a_q_20, .inl (g 0, n_21, .inl q_22)), (a_q_26, .inl (g 0, n_27, .inl q_28)), (a_q_44, .inl (g 0, n_45, .inl q_46))] ++ (offS ad_71 tp_p_ hd_p_ tf_p_ cf_p_ g o_72)) := hD
            refine W.widen (k := 3953) (n := 24300) (by omega) (by omega) ?_
            refine lv_idiv hx hb dL_isSort_138 hw.1 ?_
            have hw := hw.2
            refine lv_topi (fun x_73 ex_73 => ?_)
            have hw := hw x_73 ex_73
            refine lv_goto (tgt := 143) hx hb dL_isSort_139 (by decide) ?_
            obtain ⟨hP, hD⟩ := seg_sub (segs := [[(a_r_, .inl (g 0, n_r_, .inl r__12))], [(a_q_20, .inl (g 0, n_21, .inl q_22))], [(a_q_26, .inl (g 0, n_27, .inl q_28))], [(a_q_44, .inl (g 0, n_45, .inl q_46))], offS ad_71 tp_p_ hd_p_ tf_p_ cf_p_ g o_72]) [[(a_r_, .inl (g 0, n_r_, .inl r__12))], offS ad_71 tp_p_ hd_p_ tf_p_ cf_p_ g o_72] [[(a_q_20, .inl (g 0, n_21, .inl q_22))], [(a_q_26, .inl (g 0, n_27, .inl q_28))], [(a_q_44, .inl (g 0, n_45, .inl q_46))]] 5 [0, 4, 1, 2, 3] rfl rfl (by decide) hP hD
            refine W.widen (k := 3953) (n := 24300) (by omega) (by omega) ?_
            exact JN143 x_73 o_72 ad_71 had_71 _ _ hw hP hD hS _ (lv_sub hl [] rfl)
      · have hw := hw.1 (b2i_0 c_48)
        refine lv_iconst (v := 0) hx hb dL_isSort_96 (by decide) ?_
        refine W.widen (k := 3953) (n := 24300) (by omega) (by omega) ?_
        obtain ⟨hP, hD⟩ := seg_sub (segs := [[(a_r_, .inl (g 0, n_r_, .inl r__12))], [(a_q_20, .inl (g 0, n_21, .inl q_22))], [(a_q_26, .inl (g 0, n_27, .inl q_28))], [(a_q_44, .inl (g 0, n_45, .inl q_46))], offS ad_42 tp_p_ hd_p_ tf_p_ cf_p_ g o_43]) [[(a_r_, .inl (g 0, n_r_, .inl r__12))], offS ad_42 tp_p_ hd_p_ tf_p_ cf_p_ g o_43] [[(a_q_20, .inl (g 0, n_21, .inl q_22))], [(a_q_26, .inl (g 0, n_27, .inl q_28))], [(a_q_44, .inl (g 0, n_45, .inl q_46))]] 5 [0, 4, 1, 2, 3] rfl rfl (by decide) hP hD
        exact W.zret (v := 0) hx hb hr rfl (fun t ht hW => ⟨⟨_, (r__12, ad_42, o_43, ()), rfl, ⟨false, rfl, ⟨hw, had_42⟩⟩, ⟨P_at ht hP, hD⟩⟩, hS.F ht⟩) hS.2.2 dL_isSort_97
theorem dL_isCombined_0 : decode cL_isCombined 0 = .ok (.aload_n 1, 1) := by decide +kernel
theorem dL_isCombined_1 : decode cL_isCombined 1 = .ok (.iconst 3, 1) := by decide +kernel
theorem dL_isCombined_2 : decode cL_isCombined 2 = .ok (.invokestatic 103, 3) := by decide +kernel
theorem dL_isCombined_5 : decode cL_isCombined 5 = .ok (.istore 4, 2) := by decide +kernel
theorem dL_isCombined_7 : decode cL_isCombined 7 = .ok (.aload_n 0, 1) := by decide +kernel
theorem dL_isCombined_8 : decode cL_isCombined 8 = .ok (.iload_n 2, 1) := by decide +kernel
theorem dL_isCombined_9 : decode cL_isCombined 9 = .ok (.invokestatic 120, 3) := by decide +kernel
theorem dL_isCombined_12 : decode cL_isCombined 12 = .ok (.astore 5, 2) := by decide +kernel
theorem dL_isCombined_14 : decode cL_isCombined 14 = .ok (.aload_n 0, 1) := by decide +kernel
theorem dL_isCombined_15 : decode cL_isCombined 15 = .ok (.iload_n 3, 1) := by decide +kernel
theorem dL_isCombined_16 : decode cL_isCombined 16 = .ok (.invokestatic 120, 3) := by decide +kernel
theorem dL_isCombined_19 : decode cL_isCombined 19 = .ok (.astore 6, 2) := by decide +kernel
theorem dL_isCombined_21 : decode cL_isCombined 21 = .ok (.aload_n 1, 1) := by decide +kernel
theorem dL_isCombined_22 : decode cL_isCombined 22 = .ok (.bipush 8, 2) := by decide +kernel
theorem dL_isCombined_24 : decode cL_isCombined 24 = .ok (.invokestatic 103, 3) := by decide +kernel
theorem dL_isCombined_27 : decode cL_isCombined 27 = .ok (.istore 7, 2) := by decide +kernel
theorem dL_isCombined_29 : decode cL_isCombined 29 = .ok (.aload_n 0, 1) := by decide +kernel
theorem dL_isCombined_30 : decode cL_isCombined 30 = .ok (.iload_n 2, 1) := by decide +kernel
theorem dL_isCombined_31 : decode cL_isCombined 31 = .ok (.iconst 0, 1) := by decide +kernel
theorem dL_isCombined_32 : decode cL_isCombined 32 = .ok (.invokevirtual 144, 3) := by decide +kernel
theorem dL_isCombined_52 : decode cL_isCombined 52 = .ok (.istore 8, 2) := by decide +kernel
theorem dL_isCombined_54 : decode cL_isCombined 54 = .ok (.iload 8, 2) := by decide +kernel
theorem dL_isCombined_56 : decode cL_isCombined 56 = .ok (.ifCond .ne 25, 3) := by decide +kernel
theorem dL_isCombined_81 : decode cL_isCombined 81 = .ok (.aload_n 0, 1) := by decide +kernel
theorem dL_isCombined_82 : decode cL_isCombined 82 = .ok (.aload 5, 2) := by decide +kernel
theorem dL_isCombined_84 : decode cL_isCombined 84 = .ok (.aload 6, 2) := by decide +kernel
theorem dL_isCombined_86 : decode cL_isCombined 86 = .ok (.iload 4, 2) := by decide +kernel
theorem dL_isCombined_88 : decode cL_isCombined 88 = .ok (.invokestatic 184, 3) := by decide +kernel
theorem dL_isCombined_91 : decode cL_isCombined 91 = .ok (.astore 9, 2) := by decide +kernel
theorem dL_isCombined_93 : decode cL_isCombined 93 = .ok (.aload 9, 2) := by decide +kernel
theorem dL_isCombined_95 : decode cL_isCombined 95 = .ok (.arraylength, 1) := by decide +kernel
theorem dL_isCombined_96 : decode cL_isCombined 96 = .ok (.bipush 100, 2) := by decide +kernel
theorem dL_isCombined_98 : decode cL_isCombined 98 = .ok (.if_icmp .le 25, 3) := by decide +kernel
theorem dL_isCombined_123 : decode cL_isCombined 123 = .ok (.aload_n 0, 1) := by decide +kernel
theorem dL_isCombined_124 : decode cL_isCombined 124 = .ok (.iload_n 2, 1) := by decide +kernel
theorem dL_isCombined_125 : decode cL_isCombined 125 = .ok (.iload_n 3, 1) := by decide +kernel
theorem dL_isCombined_126 : decode cL_isCombined 126 = .ok (.iload 7, 2) := by decide +kernel
theorem dL_isCombined_128 : decode cL_isCombined 128 = .ok (.iload 4, 2) := by decide +kernel
theorem dL_isCombined_130 : decode cL_isCombined 130 = .ok (.invokevirtual 60, 3) := by decide +kernel
theorem dL_isCombined_133 : decode cL_isCombined 133 = .ok (.aload 9, 2) := by decide +kernel
theorem dL_isCombined_135 : decode cL_isCombined 135 = .ok (.arraylength, 1) := by decide +kernel
theorem dL_isCombined_136 : decode cL_isCombined 136 = .ok (.if_icmp .ne 17, 3) := by decide +kernel
theorem dL_isCombined_153 : decode cL_isCombined 153 = .ok (.iconst 0, 1) := by decide +kernel
theorem dL_isCombined_154 : decode cL_isCombined 154 = .ok (.ireturn, 1) := by decide +kernel
theorem dL_isCombined_139 : decode cL_isCombined 139 = .ok (.aload_n 0, 1) := by decide +kernel
theorem dL_isCombined_140 : decode cL_isCombined 140 = .ok (.iload 7, 2) := by decide +kernel
theorem dL_isCombined_142 : decode cL_isCombined 142 = .ok (.invokestatic 120, 3) := by decide +kernel
theorem dL_isCombined_145 : decode cL_isCombined 145 = .ok (.aload 9, 2) := by decide +kernel
theorem dL_isCombined_147 : decode cL_isCombined 147 = .ok (.invokestatic 136, 3) := by decide +kernel
theorem dL_isCombined_150 : decode cL_isCombined 150 = .ok (.ifCond .ne 5, 3) := by decide +kernel
theorem dL_isCombined_155 : decode cL_isCombined 155 = .ok (.iload 7, 2) := by decide +kernel
theorem dL_isCombined_157 : decode cL_isCombined 157 = .ok (.iload_n 2, 1) := by decide +kernel
theorem dL_isCombined_174 : decode cL_isCombined 174 = .ok (.iload 7, 2) := by decide +kernel
theorem dL_isCombined_176 : decode cL_isCombined 176 = .ok (.iload_n 3, 1) := by decide +kernel
theorem dL_isCombined_177 : decode cL_isCombined 177 = .ok (.if_icmp .eq 16, 3) := by decide +kernel
theorem dL_isCombined_193 : decode cL_isCombined 193 = .ok (.iconst 1, 1) := by decide +kernel
theorem dL_isCombined_194 : decode cL_isCombined 194 = .ok (.goto 4, 3) := by decide +kernel
theorem dL_isCombined_198 : decode cL_isCombined 198 = .ok (.ireturn, 1) := by decide +kernel
theorem dL_isCombined_180 : decode cL_isCombined 180 = .ok (.aload_n 0, 1) := by decide +kernel
theorem dL_isCombined_181 : decode cL_isCombined 181 = .ok (.iload_n 3, 1) := by decide +kernel
theorem dL_isCombined_182 : decode cL_isCombined 182 = .ok (.invokestatic 120, 3) := by decide +kernel
theorem dL_isCombined_185 : decode cL_isCombined 185 = .ok (.aload 6, 2) := by decide +kernel
theorem dL_isCombined_187 : decode cL_isCombined 187 = .ok (.invokestatic 136, 3) := by decide +kernel
theorem dL_isCombined_190 : decode cL_isCombined 190 = .ok (.ifCond .eq 7, 3) := by decide +kernel
theorem dL_isCombined_197 : decode cL_isCombined 197 = .ok (.iconst 0, 1) := by decide +kernel
theorem dL_isCombined_158 : decode cL_isCombined 158 = .ok (.if_icmp .eq 16, 3) := by decide +kernel
theorem dL_isCombined_161 : decode cL_isCombined 161 = .ok (.aload_n 0, 1) := by decide +kernel
theorem dL_isCombined_162 : decode cL_isCombined 162 = .ok (.iload_n 2, 1) := by decide +kernel
theorem dL_isCombined_163 : decode cL_isCombined 163 = .ok (.invokestatic 120, 3) := by decide +kernel
theorem dL_isCombined_166 : decode cL_isCombined 166 = .ok (.aload 5, 2) := by decide +kernel
theorem dL_isCombined_168 : decode cL_isCombined 168 = .ok (.invokestatic 136, 3) := by decide +kernel
theorem dL_isCombined_171 : decode cL_isCombined 171 = .ok (.ifCond .eq 26, 3) := by decide +kernel
theorem dL_isCombined_101 : decode cL_isCombined 101 = .ok (.aload_n 0, 1) := by decide +kernel
theorem dL_isCombined_102 : decode cL_isCombined 102 = .ok (.bipush 18, 2) := by decide +kernel
theorem dL_isCombined_104 : decode cL_isCombined 104 = .ok (.iload_n 2, 1) := by decide +kernel
theorem dL_isCombined_105 : decode cL_isCombined 105 = .ok (.iload_n 3, 1) := by decide +kernel
theorem dL_isCombined_106 : decode cL_isCombined 106 = .ok (.iload 4, 2) := by decide +kernel
theorem dL_isCombined_108 : decode cL_isCombined 108 = .ok (.invokestatic 140, 3) := by decide +kernel
theorem dL_isCombined_111 : decode cL_isCombined 111 = .ok (.sipush (-20004), 3) := by decide +kernel
theorem dL_isCombined_114 : decode cL_isCombined 114 = .ok (.if_icmp .ne 7, 3) := by decide +kernel
theorem dL_isCombined_121 : decode cL_isCombined 121 = .ok (.iconst 0, 1) := by decide +kernel
theorem dL_isCombined_122 : decode cL_isCombined 122 = .ok (.ireturn, 1) := by decide +kernel
theorem dL_isCombined_117 : decode cL_isCombined 117 = .ok (.iconst 1, 1) := by decide +kernel
theorem dL_isCombined_118 : decode cL_isCombined 118 = .ok (.goto 4, 3) := by decide +kernel
theorem dL_isCombined_59 : decode cL_isCombined 59 = .ok (.aload_n 0, 1) := by decide +kernel
theorem dL_isCombined_60 : decode cL_isCombined 60 = .ok (.bipush 18, 2) := by decide +kernel
theorem dL_isCombined_62 : decode cL_isCombined 62 = .ok (.iload_n 2, 1) := by decide +kernel
theorem dL_isCombined_63 : decode cL_isCombined 63 = .ok (.iload_n 3, 1) := by decide +kernel
theorem dL_isCombined_64 : decode cL_isCombined 64 = .ok (.iload 4, 2) := by decide +kernel
theorem dL_isCombined_66 : decode cL_isCombined 66 = .ok (.invokestatic 140, 3) := by decide +kernel
theorem dL_isCombined_69 : decode cL_isCombined 69 = .ok (.sipush (-20004), 3) := by decide +kernel
theorem dL_isCombined_72 : decode cL_isCombined 72 = .ok (.if_icmp .ne 7, 3) := by decide +kernel
theorem dL_isCombined_79 : decode cL_isCombined 79 = .ok (.iconst 0, 1) := by decide +kernel
theorem dL_isCombined_80 : decode cL_isCombined 80 = .ok (.ireturn, 1) := by decide +kernel
theorem dL_isCombined_75 : decode cL_isCombined 75 = .ok (.iconst 1, 1) := by decide +kernel
theorem dL_isCombined_76 : decode cL_isCombined 76 = .ok (.goto 4, 3) := by decide +kernel
theorem dL_isCombined_51 : decode cL_isCombined 51 = .ok (.iconst 0, 1) := by decide +kernel
theorem dL_isCombined_35 : decode cL_isCombined 35 = .ok (.ifCond .eq 16, 3) := by decide +kernel
theorem dL_isCombined_38 : decode cL_isCombined 38 = .ok (.aload_n 0, 1) := by decide +kernel
theorem dL_isCombined_39 : decode cL_isCombined 39 = .ok (.iload_n 3, 1) := by decide +kernel
theorem dL_isCombined_40 : decode cL_isCombined 40 = .ok (.iconst 0, 1) := by decide +kernel
theorem dL_isCombined_41 : decode cL_isCombined 41 = .ok (.invokevirtual 144, 3) := by decide +kernel
theorem dL_isCombined_44 : decode cL_isCombined 44 = .ok (.ifCond .eq 7, 3) := by decide +kernel
theorem dL_isCombined_47 : decode cL_isCombined 47 = .ok (.iconst 1, 1) := by decide +kernel
theorem dL_isCombined_48 : decode cL_isCombined 48 = .ok (.goto 4, 3) := by decide +kernel

set_option maxHeartbeats 8000000 in
set_option maxRecDepth 100000 in
theorem c_L_isCombined (l : Launch) (hlf : l.stackTraces = false) (dC : Nat → ClassId) (dI : Nat → Nat → Nat) (g : Nat → ClassId) (tp_p_ hd_p_ : Nat → Nat) (tf_p_ cf_p_ : Nat → Option Nat) (htf_p_ : ∀ j, j < 8 → tf_p_ j = some (tp_p_ j)) (hcf_p_ : ∀ j, j < 8 → cf_p_ j = some (tp_p_ (8 + j))) (a_p_ : Nat → Nat) (t_p_ : Nat) (h_p_ : a_p_ 0 = t_p_) (o_p_ : OS) (a_r_ n_r_ : Nat) (r_ : Nat → Int32) (a_ : Int32) (b_ : Int32) (Q : Bool → (Nat → Int32) → OS → Prop) (hw : wp_L_isCombined o_p_ n_r_ r_ a_ b_ Q) (sz : Nat) : Met l yL_isCombined wqL_isCombined ({ frames := 11, cells := 92136, slots := 554368, locals := 203 }) (va_Pc [.ref t_p_, .ref a_r_, .int a_, .int b_] (PG (dC, dI) g ([(a_r_, .inl (g 0, n_r_, .inl r_))] ++ (offS a_p_ tp_p_ hd_p_ tf_p_ cf_p_ g o_p_)) sz)) (va_Qi (fun (r : Int32) (u : (Nat → Int32) × (Nat → Nat) × OS × Unit) => ∃ b : Bool, r = b2i b ∧ (Q b u.1 u.2.2.1 ∧ u.2.1 0 = t_p_)) (fun (u : (Nat → Int32) × (Nat → Nat) × OS × Unit) t9 => va_P (dC, dI) vwCl ([(a_r_, .inl (g 0, n_r_, .inl u.1))] ++ (offS u.2.1 tp_p_ hd_p_ tf_p_ cf_p_ g u.2.2.1)) t9.heap ∧ va_D (va_A ([(a_r_, .inl (g 0, n_r_, .inl r_))] ++ (offS a_p_ tp_p_ hd_p_ tf_p_ cf_p_ g o_p_)) sz) ([(a_r_, .inl (g 0, n_r_, .inl u.1))] ++ (offS u.2.1 tp_p_ hd_p_ tf_p_ cf_p_ g u.2.2.1))) (va_A ([(a_r_, .inl (g 0, n_r_, .inl r_))] ++ (offS a_p_ tp_p_ hd_p_ tf_p_ cf_p_ g o_p_)) sz)) 92136 554368 (va_A ([(a_r_, .inl (g 0, n_r_, .inl r_))] ++ (offS a_p_ tp_p_ hd_p_ tf_p_ cf_p_ g o_p_)) sz) := by
  refine Met.ofW (cc := cL_isCombined) (maxL := 10) (ret := (some .boolean)) (by decide) rfl ?_
  intro p e s m args below meth c s₁ B hml hv
  obtain ⟨rfl, hsz, hP, hK, hD0, hG⟩ := hv
  have hx := B.exec
  have hb := B.bytes
  have hr := B.returns
  have hts := atoms_spec (ws := wqL_isCombined) B.pre
  have hown : s.vm.findClass RL = some m.cls := findClass_of_methodNamed B.named
  have hlocks := B.notSynchronized
  subst hsz
  have hD := hD0.self (sz := s.heap.size)
  generalize hAe : va_A ([(a_r_, .inl (g 0, n_r_, .inl r_))] ++ (offS a_p_ tp_p_ hd_p_ tf_p_ cf_p_ g o_p_)) s.heap.size = A at hD hG ⊢
  have hA : ∀ q : Nat, s.heap.size ≤ q → A q := fun q h => by rw [← hAe]; exact Or.inr h
  have hS : va_S A s.heap s.heap [] := va_S.rf
  have hrc : (headSpec wqL_isCombined ({ frames := 11, cells := 92136, slots := 554368, locals := 203 })).room.cells = 92136 := rfl
  have hrs : (headSpec wqL_isCombined ({ frames := 11, cells := 92136, slots := 554368, locals := 203 })).room.slots = 554368 := rfl
  have hl := lv_entry ([.ref t_p_, .ref a_r_, .int a_, .int b_]) (n := 10) (Nat.le_of_ble_eq_true rfl)
  rw [lg_entry_eq]
  generalize (lg_sl ([.ref t_p_, .ref a_r_, .int a_, .int b_]) ++ List.replicate (10 - (lg_sl ([.ref t_p_, .ref a_r_, .int a_, .int b_])).length) Slot.unset).toArray = ls at hl ⊢
  have hl : lv_has ls 10 [(0, .ref t_p_), (1, .ref a_r_), (2, .int a_), (3, .int b_)] := hl
  unfold wp_L_isCombined at hw
  refine lv_aload_n hx hb dL_isCombined_0 rfl (lv_at hl 1 rfl) ?_
  refine lv_iconst (v := 3) hx hb dL_isCombined_1 (by decide) ?_
  obtain ⟨hPs, hDs⟩ := seg_call (segs := [[(a_r_, .inl (g 0, n_r_, .inl r_))], offS a_p_ tp_p_ hd_p_ tf_p_ cf_p_ g o_p_]) [offS a_p_ tp_p_ hd_p_ tf_p_ cf_p_ g o_p_] [[(a_r_, .inl (g 0, n_r_, .inl r_))]] 2 [1, 0] rfl rfl (by decide) hP hD
  have hPc : va_P (dC, dI) vwCl [(a_r_, .inl (g 0, n_r_, .inl r_))] s.heap := P_r hPs
  have hDc : va_D A [(a_r_, .inl (g 0, n_r_, .inl r_))] := D_r hDs
  have hFc : ∀ q, va_A [(a_r_, .inl (g 0, n_r_, .inl r_))] s.heap.size q → A q := A_all hDc hA hS.1
  refine va_calli (va_runS (As := [.ref a_r_, .int 3]) (rest := []) ⟨hx, hb, hml, hown, hts⟩ (c_L_draw l hlf dC dI g (a_r_ := a_r_) (n_r_ := n_r_) (r_ := r_) (many := 3) (hw := hw) (sz := s.heap.size)) (va_cwS 2 hts (gqS aw_2_215 aw_2_216 aw_1_0 aw_2_217) rfl rfl rfl (by decide +kernel) ⟨Nat.le_of_ble_eq_true rfl, Nat.le_of_ble_eq_true rfl⟩) ⟨PG_blind, PG_call hK hG hS hPc hDc hFc⟩ rfl rfl hl.1 rfl (lv_room (Nat.le_of_ble_eq_true rfl)) dL_isCombined_2 ⟨by rw [hrc]; omega, by rw [hrs]; omega⟩) hS (fun q _ h => hFc q h) hFc (fun r_1 u_1 t_1 H_1 L_1 ht_1 hvm_1 hw_1 hB_1 hz_1 hk_1 hS => ?_)
  obtain ⟨r__2, u_1⟩ := u_1
  have hw := hw_1
  rw [ht_1] at hB_1
  obtain ⟨hP1, hD1⟩ := hB_1
  obtain ⟨hP, hD⟩ := join_r hPs hDs hk_1 hFc hP1 hD1
  obtain ⟨hP, hD⟩ := seg_join [offS a_p_ tp_p_ hd_p_ tf_p_ cf_p_ g o_p_] [[(a_r_, .inl (g 0, n_r_, .inl r__2))]] [[(a_r_, .inl (g 0, n_r_, .inl r__2))], offS a_p_ tp_p_ hd_p_ tf_p_ cf_p_ g o_p_] 2 [1, 0] rfl rfl (by decide) hP hD
  have hP : va_P (dC, dI) vwCl ([(a_r_, .inl (g 0, n_r_, .inl r__2))] ++ (offS a_p_ tp_p_ hd_p_ tf_p_ cf_p_ g o_p_)) H_1 := hP
  have hD : va_D A ([(a_r_, .inl (g 0, n_r_, .inl r__2))] ++ (offS a_p_ tp_p_ hd_p_ tf_p_ cf_p_ g o_p_)) := hD
  refine W.widen (k := 0) (n := 0) (by omega) (by omega) ?_
  refine lv_istore (lv' := [(4, .int r_1), (0, .ref t_p_), (1, .ref a_r_), (2, .int a_), (3, .int b_)]) hx hb dL_isCombined_5 hl (by decide) rfl (fun ls hl => ?_)
  refine lv_aload_n hx hb dL_isCombined_7 rfl (lv_at hl 1 rfl) ?_
  refine lv_iload_n hx hb dL_isCombined_8 rfl (lv_at hl 3 rfl) ?_
  obtain ⟨hPs, hDs⟩ := seg_call (segs := [[(a_r_, .inl (g 0, n_r_, .inl r__2))], offS a_p_ tp_p_ hd_p_ tf_p_ cf_p_ g o_p_]) [[(a_r_, .inl (g 0, n_r_, .inl r__2))]] [offS a_p_ tp_p_ hd_p_ tf_p_ cf_p_ g o_p_] 2 [0, 1] rfl rfl (by decide) hP hD
  have hPc : va_P (dC, dI) vwCl (offS a_p_ tp_p_ hd_p_ tf_p_ cf_p_ g o_p_) H_1 := P_r hPs
  have hDc : va_D A (offS a_p_ tp_p_ hd_p_ tf_p_ cf_p_ g o_p_) := D_r hDs
  have hFc : ∀ q, va_A (offS a_p_ tp_p_ hd_p_ tf_p_ cf_p_ g o_p_) H_1.size q → A q := A_all hDc hA hS.1
  refine va_callq (va_runS (As := [.ref t_p_, .int a_]) (rest := []) ⟨hx, hb, hml, hown, hts⟩ (c_L_tape l hlf dC dI g (tp_p_ := tp_p_) (hd_p_ := hd_p_) (tf_p_ := tf_p_) (cf_p_ := cf_p_) (htf_p_ := htf_p_) (hcf_p_ := hcf_p_) (a_p_ := a_p_) (t_p_ := t_p_) (h_p_ := h_p_) (o_p_ := o_p_) (tape := a_) (hw := hw) (sz := H_1.size)) (va_cwS 2 hts (gqS aw_3_158 aw_3_159 aw_1_0 aw_3_160) rfl rfl rfl (by decide +kernel) ⟨Nat.le_of_ble_eq_true rfl, Nat.le_of_ble_eq_true rfl⟩) ⟨PG_blind, PG_call hK hG hS hPc hDc hFc⟩ rfl rfl hl.1 rfl (lv_room (Nat.le_of_ble_eq_true rfl)) dL_isCombined_9 ⟨by rw [hrc]; omega, by rw [hrs]; omega⟩) hS (fun q _ h => hFc q h) hFc (fun r_3 u_3 t_3 H_3 L_3 ht_3 hvm_3 hw_3 hB_3 hz_3 hk_3 hS => ?_)
  obtain ⟨ad_4, o_5, a_q_6, n_7, q_8, u_3⟩ := u_3
  obtain ⟨rfl, ⟨hw, had_4⟩⟩ := hw_3
  rw [ht_3] at hB_3
  obtain ⟨hP1, hD1⟩ := hB_3
  obtain ⟨hP, hD⟩ := join_r hPs hDs hk_3 hFc hP1 hD1
  obtain ⟨hP, hD⟩ := seg_join [[(a_r_, .inl (g 0, n_r_, .inl r__2))]] [[(a_q_6, .inl (g 0, n_7, .inl q_8))], offS ad_4 tp_p_ hd_p_ tf_p_ cf_p_ g o_5] [[(a_r_, .inl (g 0, n_r_, .inl r__2))], [(a_q_6, .inl (g 0, n_7, .inl q_8))], offS ad_4 tp_p_ hd_p_ tf_p_ cf_p_ g o_5] 3 [0, 1, 2] rfl rfl (by decide) hP hD
  have hP : va_P (dC, dI) vwCl ([(a_r_, .inl (g 0, n_r_, .inl r__2)), (a_q_6, .inl (g 0, n_7, .inl q_8))] ++ (offS ad_4 tp_p_ hd_p_ tf_p_ cf_p_ g o_5)) H_3 := hP
  have hD : va_D A ([(a_r_, .inl (g 0, n_r_, .inl r__2)), (a_q_6, .inl (g 0, n_7, .inl q_8))] ++ (offS ad_4 tp_p_ hd_p_ tf_p_ cf_p_ g o_5)) := hD
  refine W.widen (k := 204) (n := 1418) (by omega) (by omega) ?_
  refine lv_astore (lv' := [(5, .ref a_q_6), (4, .int r_1), (0, .ref t_p_), (1, .ref a_r_), (2, .int a_), (3, .int b_)]) hx hb dL_isCombined_12 hl (by decide) rfl (fun ls hl => ?_)
  refine lv_aload_n hx hb dL_isCombined_14 rfl (lv_at hl 2 rfl) ?_
  refine lv_iload_n hx hb dL_isCombined_15 rfl (lv_at hl 5 rfl) ?_
  obtain ⟨hPs, hDs⟩ := seg_call (segs := [[(a_r_, .inl (g 0, n_r_, .inl r__2))], [(a_q_6, .inl (g 0, n_7, .inl q_8))], offS ad_4 tp_p_ hd_p_ tf_p_ cf_p_ g o_5]) [[(a_r_, .inl (g 0, n_r_, .inl r__2))], [(a_q_6, .inl (g 0, n_7, .inl q_8))]] [offS ad_4 tp_p_ hd_p_ tf_p_ cf_p_ g o_5] 3 [0, 1, 2] rfl rfl (by decide) hP hD
  have hPc : va_P (dC, dI) vwCl (offS ad_4 tp_p_ hd_p_ tf_p_ cf_p_ g o_5) H_3 := P_r hPs
  have hDc : va_D A (offS ad_4 tp_p_ hd_p_ tf_p_ cf_p_ g o_5) := D_r hDs
  have hFc : ∀ q, va_A (offS ad_4 tp_p_ hd_p_ tf_p_ cf_p_ g o_5) H_3.size q → A q := A_all hDc hA hS.1
  refine va_callq (va_runS (As := [.ref t_p_, .int b_]) (rest := []) ⟨hx, hb, hml, hown, hts⟩ (c_L_tape l hlf dC dI g (tp_p_ := tp_p_) (hd_p_ := hd_p_) (tf_p_ := tf_p_) (cf_p_ := cf_p_) (htf_p_ := htf_p_) (hcf_p_ := hcf_p_) (a_p_ := ad_4) (t_p_ := t_p_) (h_p_ := had_4) (o_p_ := o_5) (tape := b_) (hw := hw) (sz := H_3.size)) (va_cwS 2 hts (gqS aw_3_158 aw_3_159 aw_1_0 aw_3_160) rfl rfl rfl (by decide +kernel) ⟨Nat.le_of_ble_eq_true rfl, Nat.le_of_ble_eq_true rfl⟩) ⟨PG_blind, PG_call hK hG hS hPc hDc hFc⟩ rfl rfl hl.1 rfl (lv_room (Nat.le_of_ble_eq_true rfl)) dL_isCombined_16 ⟨by rw [hrc]; omega, by rw [hrs]; omega⟩) hS (fun q _ h => hFc q h) hFc (fun r_9 u_9 t_9 H_9 L_9 ht_9 hvm_9 hw_9 hB_9 hz_9 hk_9 hS => ?_)
  obtain ⟨ad_10, o_11, a_q_12, n_13, q_14, u_9⟩ := u_9
  obtain ⟨rfl, ⟨hw, had_10⟩⟩ := hw_9
  rw [ht_9] at hB_9
  obtain ⟨hP1, hD1⟩ := hB_9
  obtain ⟨hP, hD⟩ := join_r hPs hDs hk_9 hFc hP1 hD1
  obtain ⟨hP, hD⟩ := seg_join [[(a_r_, .inl (g 0, n_r_, .inl r__2))], [(a_q_6, .inl (g 0, n_7, .inl q_8))]] [[(a_q_12, .inl (g 0, n_13, .inl q_14))], offS ad_10 tp_p_ hd_p_ tf_p_ cf_p_ g o_11] [[(a_r_, .inl (g 0, n_r_, .inl r__2))], [(a_q_6, .inl (g 0, n_7, .inl q_8))], [(a_q_12, .inl (g 0, n_13, .inl q_14))], offS ad_10 tp_p_ hd_p_ tf_p_ cf_p_ g o_11] 4 [0, 1, 2, 3] rfl rfl (by decide) hP hD
  have hP : va_P (dC, dI) vwCl ([(a_r_, .inl (g 0, n_r_, .inl r__2)), (a_q_6, .inl (g 0, n_7, .inl q_8)), (a_q_12, .inl (g 0, n_13, .inl q_14))] ++ (offS ad_10 tp_p_ hd_p_ tf_p_ cf_p_ g o_11)) H_9 := hP
  have hD : va_D A ([(a_r_, .inl (g 0, n_r_, .inl r__2)), (a_q_6, .inl (g 0, n_7, .inl q_8)), (a_q_12, .inl (g 0, n_13, .inl q_14))] ++ (offS ad_10 tp_p_ hd_p_ tf_p_ cf_p_ g o_11)) := hD
  refine W.widen (k := 408) (n := 2836) (by omega) (by omega) ?_
  refine lv_astore (lv' := [(6, .ref a_q_12), (5, .ref a_q_6), (4, .int r_1), (0, .ref t_p_), (1, .ref a_r_), (2, .int a_), (3, .int b_)]) hx hb dL_isCombined_19 hl (by decide) rfl (fun ls hl => ?_)
  refine lv_aload_n hx hb dL_isCombined_21 rfl (lv_at hl 4 rfl) ?_
  refine lv_bipush (v := 8) hx hb dL_isCombined_22 (by decide) ?_
  obtain ⟨hPs, hDs⟩ := seg_call (segs := [[(a_r_, .inl (g 0, n_r_, .inl r__2))], [(a_q_6, .inl (g 0, n_7, .inl q_8))], [(a_q_12, .inl (g 0, n_13, .inl q_14))], offS ad_10 tp_p_ hd_p_ tf_p_ cf_p_ g o_11]) [[(a_q_6, .inl (g 0, n_7, .inl q_8))], [(a_q_12, .inl (g 0, n_13, .inl q_14))], offS ad_10 tp_p_ hd_p_ tf_p_ cf_p_ g o_11] [[(a_r_, .inl (g 0, n_r_, .inl r__2))]] 4 [1, 2, 3, 0] rfl rfl (by decide) hP hD
  have hPc : va_P (dC, dI) vwCl [(a_r_, .inl (g 0, n_r_, .inl r__2))] H_9 := P_r hPs
  have hDc : va_D A [(a_r_, .inl (g 0, n_r_, .inl r__2))] := D_r hDs
  have hFc : ∀ q, va_A [(a_r_, .inl (g 0, n_r_, .inl r__2))] H_9.size q → A q := A_all hDc hA hS.1
  refine va_calli (va_runS (As := [.ref a_r_, .int 8]) (rest := []) ⟨hx, hb, hml, hown, hts⟩ (c_L_draw l hlf dC dI g (a_r_ := a_r_) (n_r_ := n_r_) (r_ := r__2) (many := 8) (hw := hw) (sz := H_9.size)) (va_cwS 2 hts (gqS aw_2_215 aw_2_216 aw_1_0 aw_2_217) rfl rfl rfl (by decide +kernel) ⟨Nat.le_of_ble_eq_true rfl, Nat.le_of_ble_eq_true rfl⟩) ⟨PG_blind, PG_call hK hG hS hPc hDc hFc⟩ rfl rfl hl.1 rfl (lv_room (Nat.le_of_ble_eq_true rfl)) dL_isCombined_24 ⟨by rw [hrc]; omega, by rw [hrs]; omega⟩) hS (fun q _ h => hFc q h) hFc (fun r_15 u_15 t_15 H_15 L_15 ht_15 hvm_15 hw_15 hB_15 hz_15 hk_15 hS => ?_)
  obtain ⟨r__16, u_15⟩ := u_15
  have hw := hw_15
  rw [ht_15] at hB_15
  obtain ⟨hP1, hD1⟩ := hB_15
  obtain ⟨hP, hD⟩ := join_r hPs hDs hk_15 hFc hP1 hD1
  obtain ⟨hP, hD⟩ := seg_join [[(a_q_6, .inl (g 0, n_7, .inl q_8))], [(a_q_12, .inl (g 0, n_13, .inl q_14))], offS ad_10 tp_p_ hd_p_ tf_p_ cf_p_ g o_11] [[(a_r_, .inl (g 0, n_r_, .inl r__16))]] [[(a_r_, .inl (g 0, n_r_, .inl r__16))], [(a_q_6, .inl (g 0, n_7, .inl q_8))], [(a_q_12, .inl (g 0, n_13, .inl q_14))], offS ad_10 tp_p_ hd_p_ tf_p_ cf_p_ g o_11] 4 [3, 0, 1, 2] rfl rfl (by decide) hP hD
  have hP : va_P (dC, dI) vwCl ([(a_r_, .inl (g 0, n_r_, .inl r__16)), (a_q_6, .inl (g 0, n_7, .inl q_8)), (a_q_12, .inl (g 0, n_13, .inl q_14))] ++ (offS ad_10 tp_p_ hd_p_ tf_p_ cf_p_ g o_11)) H_15 := hP
  have hD : va_D A ([(a_r_, .inl (g 0, n_r_, .inl r__16)), (a_q_6, .inl (g 0, n_7, .inl q_8)), (a_q_12, .inl (g 0, n_13, .inl q_14))] ++ (offS ad_10 tp_p_ hd_p_ tf_p_ cf_p_ g o_11)) := hD
  refine W.widen (k := 408) (n := 2836) (by omega) (by omega) ?_
  refine lv_istore (lv' := [(7, .int r_15), (6, .ref a_q_12), (5, .ref a_q_6), (4, .int r_1), (0, .ref t_p_), (1, .ref a_r_), (2, .int a_), (3, .int b_)]) hx hb dL_isCombined_27 hl (by decide) rfl (fun ls hl => ?_)
  refine lv_aload_n hx hb dL_isCombined_29 rfl (lv_at hl 4 rfl) ?_
  refine lv_iload_n hx hb dL_isCombined_30 rfl (lv_at hl 6 rfl) ?_
  refine lv_iconst (v := 0) hx hb dL_isCombined_31 (by decide) ?_
  obtain ⟨hPs, hDs⟩ := seg_call (segs := [[(a_r_, .inl (g 0, n_r_, .inl r__16))], [(a_q_6, .inl (g 0, n_7, .inl q_8))], [(a_q_12, .inl (g 0, n_13, .inl q_14))], offS ad_10 tp_p_ hd_p_ tf_p_ cf_p_ g o_11]) [[(a_r_, .inl (g 0, n_r_, .inl r__16))], [(a_q_6, .inl (g 0, n_7, .inl q_8))], [(a_q_12, .inl (g 0, n_13, .inl q_14))]] [offS ad_10 tp_p_ hd_p_ tf_p_ cf_p_ g o_11] 4 [0, 1, 2, 3] rfl rfl (by decide) hP hD
  have hPc : va_P (dC, dI) vwCl (offS ad_10 tp_p_ hd_p_ tf_p_ cf_p_ g o_11) H_15 := P_r hPs
  have hDc : va_D A (offS ad_10 tp_p_ hd_p_ tf_p_ cf_p_ g o_11) := D_r hDs
  have hFc : ∀ q, va_A (offS ad_10 tp_p_ hd_p_ tf_p_ cf_p_ g o_11) H_15.size q → A q := A_all hDc hA hS.1
  refine vx_calli (vx_runV (As := [.int a_, .int 0]) (rest := []) ⟨hx, hb, hml, hown, hts⟩ (p_isSorted l hlf dC dI g tp_p_ hd_p_ tf_p_ cf_p_ htf_p_ hcf_p_ ad_10 t_p_ had_10 o_11 a_ 0 (hw := hw) (sz := H_15.size)) (cwV 2 hts (gqV aw_5_228 aw_5_229 aw_5_230 aw_1_1 aw_5_231) rfl rfl rfl (by decide +kernel) ⟨Nat.le_of_ble_eq_true rfl, Nat.le_of_ble_eq_true rfl⟩) ⟨PG_blind, off_recv had_10 hK hPc, PG_call hK hG hS hPc hDc hFc⟩ rfl rfl hl.1 rfl (lv_room (Nat.le_of_ble_eq_true rfl)) dL_isCombined_32 ⟨by rw [hrc]; omega, by rw [hrs]; omega⟩) hS (fun q _ h => hFc q h) hFc (fun q _ h => hFc q h) (fun E ce q9 ux t H1 locs1 ht hvm hp9 hB9 hz hk hS9 hce hcv hcl => ?_) (fun r_17 u_17 t_17 H_17 L_17 ht_17 hvm_17 hw_17 hB_17 hz_17 hk_17 hS => ?_)
  · exact (hB9.1.1).elim
  obtain ⟨ad_18, o_19⟩ := u_17
  obtain ⟨b_17, rfl, ⟨hw, had_18⟩⟩ := hw_17
  rw [ht_17] at hB_17
  obtain ⟨hP1, hD1⟩ := hB_17
  obtain ⟨hP, hD⟩ := join_r hPs hDs hk_17 hFc hP1 hD1
  obtain ⟨hP, hD⟩ := seg_join [[(a_r_, .inl (g 0, n_r_, .inl r__16))], [(a_q_6, .inl (g 0, n_7, .inl q_8))], [(a_q_12, .inl (g 0, n_13, .inl q_14))]] [offS ad_18 tp_p_ hd_p_ tf_p_ cf_p_ g o_19] [[(a_r_, .inl (g 0, n_r_, .inl r__16))], [(a_q_6, .inl (g 0, n_7, .inl q_8))], [(a_q_12, .inl (g 0, n_13, .inl q_14))], offS ad_18 tp_p_ hd_p_ tf_p_ cf_p_ g o_19] 4 [0, 1, 2, 3] rfl rfl (by decide) hP hD
  have hP : va_P (dC, dI) vwCl ([(a_r_, .inl (g 0, n_r_, .inl r__16)), (a_q_6, .inl (g 0, n_7, .inl q_8)), (a_q_12, .inl (g 0, n_13, .inl q_14))] ++ (offS ad_18 tp_p_ hd_p_ tf_p_ cf_p_ g o_19)) H_17 := hP
  have hD : va_D A ([(a_r_, .inl (g 0, n_r_, .inl r__16)), (a_q_6, .inl (g 0, n_7, .inl q_8)), (a_q_12, .inl (g 0, n_13, .inl q_14))] ++ (offS ad_18 tp_p_ hd_p_ tf_p_ cf_p_ g o_19)) := hD
  refine W.widen (k := 410) (n := 2848) (by omega) (by omega) ?_
  refine W_abs (fun QM hQM => ?_)
  have JN52 : ∀ (sk0_20 : Bool) (o_21 : OS) (ad_22 : Nat → Nat) (had_22 : ad_22 0 = t_p_) (H : Heap) (locs : List Loc), (wj_L_isCombined_52 a_ b_ Q r_1 n_7 q_8 n_13 q_14 r__16 r_15) sk0_20 o_21 → va_P (dC, dI) vwCl ([(a_r_, .inl (g 0, n_r_, .inl r__16)), (a_q_6, .inl (g 0, n_7, .inl q_8)), (a_q_12, .inl (g 0, n_13, .inl q_14))] ++ (offS ad_22 tp_p_ hd_p_ tf_p_ cf_p_ g o_21)) H → va_D A ([(a_r_, .inl (g 0, n_r_, .inl r__16)), (a_q_6, .inl (g 0, n_7, .inl q_8)), (a_q_12, .inl (g 0, n_13, .inl q_14))] ++ (offS ad_22 tp_p_ hd_p_ tf_p_ cf_p_ g o_21)) → va_S A s.heap H locs → ∀ (ls : Array Slot), lv_has ls 10 [(0, .ref t_p_), (2, .int a_), (3, .int b_), (4, .int r_1), (5, .ref a_q_6), (6, .ref a_q_12), (7, .int r_15)] → W p l e (headSpec wqL_isCombined ({ frames := 11, cells := 92136, slots := 554368, locals := 203 })).room s m ([.ref t_p_, .ref a_r_, .int a_, .int b_] : List Value).toArray below meth c H locs 412 2860 QM (F0 m 52 ls [.int (b2i sk0_20)]) := by
    intro sk0_20 o_21 ad_22 had_22 H locs hw hP hD hS ls hl
    refine lv_istore (lv' := [(8, .int (b2i sk0_20)), (0, .ref t_p_), (2, .int a_), (3, .int b_), (4, .int r_1), (5, .ref a_q_6), (6, .ref a_q_12), (7, .int r_15)]) hx hb dL_isCombined_52 hl (by decide) rfl (fun ls hl => ?_)
    refine lv_iload hx hb dL_isCombined_54 (lv_at hl 0 rfl) ?_
    refine lv_if_ne (tgt := 81) hx hb dL_isCombined_56 (by decide) (fun c_23 => ?_) (fun c_23 => ?_)
    · have hw := hw.2 (b2i_1 c_23)
      refine lv_aload_n hx hb dL_isCombined_81 rfl (lv_at hl 1 rfl) ?_
      refine lv_aload hx hb dL_isCombined_82 (lv_at hl 5 rfl) ?_
      refine lv_aload hx hb dL_isCombined_84 (lv_at hl 6 rfl) ?_
      refine lv_iload hx hb dL_isCombined_86 (lv_at hl 4 rfl) ?_
      obtain ⟨hPs, hDs⟩ := seg_call (segs := [[(a_r_, .inl (g 0, n_r_, .inl r__16))], [(a_q_6, .inl (g 0, n_7, .inl q_8))], [(a_q_12, .inl (g 0, n_13, .inl q_14))], offS ad_22 tp_p_ hd_p_ tf_p_ cf_p_ g o_21]) [[(a_r_, .inl (g 0, n_r_, .inl r__16))]] [[(a_q_6, .inl (g 0, n_7, .inl q_8))], [(a_q_12, .inl (g 0, n_13, .inl q_14))], offS ad_22 tp_p_ hd_p_ tf_p_ cf_p_ g o_21] 4 [0, 1, 2, 3] rfl rfl (by decide) hP hD
      have hPc : va_P (dC, dI) vwCl ([(a_q_6, .inl (g 0, n_7, .inl q_8)), (a_q_12, .inl (g 0, n_13, .inl q_14))] ++ (offS ad_22 tp_p_ hd_p_ tf_p_ cf_p_ g o_21)) H := P_r hPs
      have hDc : va_D A ([(a_q_6, .inl (g 0, n_7, .inl q_8)), (a_q_12, .inl (g 0, n_13, .inl q_14))] ++ (offS ad_22 tp_p_ hd_p_ tf_p_ cf_p_ g o_21)) := D_r hDs
      have hFc : ∀ q, va_A ([(a_q_6, .inl (g 0, n_7, .inl q_8)), (a_q_12, .inl (g 0, n_13, .inl q_14))] ++ (offS ad_22 tp_p_ hd_p_ tf_p_ cf_p_ g o_21)) H.size q → A q := A_all hDc hA hS.1
      refine va_callq (va_runS (As := [.ref t_p_, .ref a_q_6, .ref a_q_12, .int r_1]) (rest := []) ⟨hx, hb, hml, hown, hts⟩ (c_L_together l hlf dC dI g (tp_p_ := tp_p_) (hd_p_ := hd_p_) (tf_p_ := tf_p_) (cf_p_ := cf_p_) (htf_p_ := htf_p_) (hcf_p_ := hcf_p_) (a_p_ := ad_22) (t_p_ := t_p_) (h_p_ := had_22) (o_p_ := o_21) (a_a_ := a_q_6) (n_a_ := n_7) (a_ := q_8) (a_b_ := a_q_12) (n_b_ := n_13) (b_ := q_14) (how := r_1) (hw := hw) (sz := H.size)) (va_cwS 4 hts (gqS aw_6_80 aw_6_81 aw_1_0 aw_6_82) rfl rfl rfl (by decide +kernel) ⟨Nat.le_of_ble_eq_true rfl, Nat.le_of_ble_eq_true rfl⟩) ⟨PG_blind, PG_call hK hG hS hPc hDc hFc⟩ rfl rfl hl.1 rfl (lv_room (Nat.le_of_ble_eq_true rfl)) dL_isCombined_88 ⟨by rw [hrc]; omega, by rw [hrs]; omega⟩) hS (fun q _ h => hFc q h) hFc (fun r_24 u_24 t_24 H_24 L_24 ht_24 hvm_24 hw_24 hB_24 hz_24 hk_24 hS => ?_)
      obtain ⟨ad_25, o_26, a_q_27, n_28, q_29, u_24⟩ := u_24
      obtain ⟨rfl, ⟨hw, had_25⟩⟩ := hw_24
      rw [ht_24] at hB_24
      obtain ⟨hP1, hD1⟩ := hB_24
      obtain ⟨hP, hD⟩ := join_r hPs hDs hk_24 hFc hP1 hD1
      obtain ⟨hP, hD⟩ := seg_join [[(a_r_, .inl (g 0, n_r_, .inl r__16))]] [[(a_q_6, .inl (g 0, n_7, .inl q_8))], [(a_q_12, .inl (g 0, n_13, .inl q_14))], [(a_q_27, .inl (g 0, n_28, .inl q_29))], offS ad_25 tp_p_ hd_p_ tf_p_ cf_p_ g o_26] [[(a_r_, .inl (g 0, n_r_, .inl r__16))], [(a_q_6, .inl (g 0, n_7, .inl q_8))], [(a_q_12, .inl (g 0, n_13, .inl q_14))], [(a_q_27, .inl (g 0, n_28, .inl q_29))], offS ad_25 tp_p_ hd_p_ tf_p_ cf_p_ g o_26] 5 [0, 1, 2, 3, 4] rfl rfl (by decide) hP hD
      have hP : va_P (dC, dI) vwCl ([(a_r_, .inl (g 0, n_r_, .inl r__16)), (a_q_6, .inl (g 0, n_7, .inl q_8)), (a_q_12, .inl (g 0, n_13, .inl q_14)), (a_q_27, .inl (g 0, n_28, .inl q_29))] ++ (offS ad_25 tp_p_ hd_p_ tf_p_ cf_p_ g o_26)) H_24 := hP
      have hD : va_D A ([(a_r_, .inl (g 0, n_r_, .inl r__16)), (a_q_6, .inl (g 0, n_7, .inl q_8)), (a_q_12, .inl (g 0, n_13, .inl q_14)), (a_q_27, .inl (g 0, n_28, .inl q_29))] ++ (offS ad_25 tp_p_ hd_p_ tf_p_ cf_p_ g o_26)) := hD
      refine W.widen (k := 91519) (n := 550084) (by omega) (by omega) ?_
      refine lv_astore (lv' := [(9, .ref a_q_27), (8, .int (b2i sk0_20)), (0, .ref t_p_), (2, .int a_), (3, .int b_), (4, .int r_1), (5, .ref a_q_6), (6, .ref a_q_12), (7, .int r_15)]) hx hb dL_isCombined_91 hl (by decide) rfl (fun ls hl => ?_)
      refine lv_aload hx hb dL_isCombined_93 (lv_at hl 0 rfl) ?_
      refine va_alen hx hb hK hP 3 0 rfl rfl (v := nI n_28) rfl dL_isCombined_95 ?_
      refine lv_bipush (v := 100) hx hb dL_isCombined_96 (by decide) ?_
      refine lv_icmp_le (tgt := 123) hx hb dL_isCombined_98 (by decide) (fun c_30 => ?_) (fun c_30 => ?_)
      · have hw := hw.1 c_30
        refine lv_aload_n hx hb dL_isCombined_123 rfl (lv_at hl 2 rfl) ?_
        refine lv_iload_n hx hb dL_isCombined_124 rfl (lv_at hl 3 rfl) ?_
        refine lv_iload_n hx hb dL_isCombined_125 rfl (lv_at hl 4 rfl) ?_
        refine lv_iload hx hb dL_isCombined_126 (lv_at hl 8 rfl) ?_
        refine lv_iload hx hb dL_isCombined_128 (lv_at hl 5 rfl) ?_
        obtain ⟨hPs, hDs⟩ := seg_call (segs := [[(a_r_, .inl (g 0, n_r_, .inl r__16))], [(a_q_6, .inl (g 0, n_7, .inl q_8))], [(a_q_12, .inl (g 0, n_13, .inl q_14))], [(a_q_27, .inl (g 0, n_28, .inl q_29))], offS ad_25 tp_p_ hd_p_ tf_p_ cf_p_ g o_26]) [[(a_r_, .inl (g 0, n_r_, .inl r__16))], [(a_q_6, .inl (g 0, n_7, .inl q_8))], [(a_q_12, .inl (g 0, n_13, .inl q_14))], [(a_q_27, .inl (g 0, n_28, .inl q_29))]] [offS ad_25 tp_p_ hd_p_ tf_p_ cf_p_ g o_26] 5 [0, 1, 2, 3, 4] rfl rfl (by decide) hP hD
        have hPc : va_P (dC, dI) vwCl (offS ad_25 tp_p_ hd_p_ tf_p_ cf_p_ g o_26) H_24 := P_r hPs
        have hDc : va_D A (offS ad_25 tp_p_ hd_p_ tf_p_ cf_p_ g o_26) := D_r hDs
        have hFc : ∀ q, va_A (offS ad_25 tp_p_ hd_p_ tf_p_ cf_p_ g o_26) H_24.size q → A q := A_all hDc hA hS.1
        refine vx_calli (vx_runV (As := [.int a_, .int b_, .int r_15, .int r_1]) (rest := []) ⟨hx, hb, hml, hown, hts⟩ (p_combine l hlf dC dI g tp_p_ hd_p_ tf_p_ cf_p_ htf_p_ hcf_p_ ad_25 t_p_ had_25 o_26 a_ b_ r_15 r_1 (hw := hw) (sz := H_24.size)) (cwV 4 hts (gqV aw_4_208 aw_4_209 aw_4_210 aw_1_1 aw_4_211) rfl rfl rfl (by decide +kernel) ⟨Nat.le_of_ble_eq_true rfl, Nat.le_of_ble_eq_true rfl⟩) ⟨PG_blind, off_recv had_25 hK hPc, PG_call hK hG hS hPc hDc hFc⟩ rfl rfl hl.1 rfl (lv_room (Nat.le_of_ble_eq_true rfl)) dL_isCombined_130 ⟨by rw [hrc]; omega, by rw [hrs]; omega⟩) hS (fun q _ h => hFc q h) hFc (fun q _ h => hFc q h) (fun E ce q9 ux t H1 locs1 ht hvm hp9 hB9 hz hk hS9 hce hcv hcl => ?_) (fun r_31 u_31 t_31 H_31 L_31 ht_31 hvm_31 hw_31 hB_31 hz_31 hk_31 hS => ?_)
        · exact (hB9.1.1).elim
        obtain ⟨ad_32, o_33⟩ := u_31
        obtain ⟨hw, had_32⟩ := hw_31
        rw [ht_31] at hB_31
        obtain ⟨hP1, hD1⟩ := hB_31
        obtain ⟨hP, hD⟩ := join_r hPs hDs hk_31 hFc hP1 hD1
        obtain ⟨hP, hD⟩ := seg_join [[(a_r_, .inl (g 0, n_r_, .inl r__16))], [(a_q_6, .inl (g 0, n_7, .inl q_8))], [(a_q_12, .inl (g 0, n_13, .inl q_14))], [(a_q_27, .inl (g 0, n_28, .inl q_29))]] [offS ad_32 tp_p_ hd_p_ tf_p_ cf_p_ g o_33] [[(a_r_, .inl (g 0, n_r_, .inl r__16))], [(a_q_6, .inl (g 0, n_7, .inl q_8))], [(a_q_12, .inl (g 0, n_13, .inl q_14))], [(a_q_27, .inl (g 0, n_28, .inl q_29))], offS ad_32 tp_p_ hd_p_ tf_p_ cf_p_ g o_33] 5 [0, 1, 2, 3, 4] rfl rfl (by decide) hP hD
        have hP : va_P (dC, dI) vwCl ([(a_r_, .inl (g 0, n_r_, .inl r__16)), (a_q_6, .inl (g 0, n_7, .inl q_8)), (a_q_12, .inl (g 0, n_13, .inl q_14)), (a_q_27, .inl (g 0, n_28, .inl q_29))] ++ (offS ad_32 tp_p_ hd_p_ tf_p_ cf_p_ g o_33)) H_31 := hP
        have hD : va_D A ([(a_r_, .inl (g 0, n_r_, .inl r__16)), (a_q_6, .inl (g 0, n_7, .inl q_8)), (a_q_12, .inl (g 0, n_13, .inl q_14)), (a_q_27, .inl (g 0, n_28, .inl q_29))] ++ (offS ad_32 tp_p_ hd_p_ tf_p_ cf_p_ g o_33)) := hD
        refine W.widen (k := 91524) (n := 550114) (by omega) (by omega) ?_
        refine lv_aload hx hb dL_isCombined_133 (lv_at hl 0 rfl) ?_
        refine va_alen hx hb hK hP 3 0 rfl rfl (v := nI n_28) rfl dL_isCombined_135 ?_
        refine lv_icmp_ne (tgt := 153) hx hb dL_isCombined_136 (by decide) (fun c_34 => ?_) (fun c_34 => ?_)
        · have hw := hw.2 c_34
          refine lv_iconst (v := 0) hx hb dL_isCombined_153 (by decide) ?_
          refine W.widen (k := 92136) (n := 554368) (by omega) (by omega) ?_
          subst hQM
          obtain ⟨hP, hD⟩ := seg_sub (segs := [[(a_r_, .inl (g 0, n_r_, .inl r__16))], [(a_q_6, .inl (g 0, n_7, .inl q_8))], [(a_q_12, .inl (g 0, n_13, .inl q_14))], [(a_q_27, .inl (g 0, n_28, .inl q_29))], offS ad_32 tp_p_ hd_p_ tf_p_ cf_p_ g o_33]) [[(a_r_, .inl (g 0, n_r_, .inl r__16))], offS ad_32 tp_p_ hd_p_ tf_p_ cf_p_ g o_33] [[(a_q_6, .inl (g 0, n_7, .inl q_8))], [(a_q_12, .inl (g 0, n_13, .inl q_14))], [(a_q_27, .inl (g 0, n_28, .inl q_29))]] 5 [0, 4, 1, 2, 3] rfl rfl (by decide) hP hD
          exact W.zret (v := 0) hx hb hr rfl (fun t ht hW => ⟨⟨_, (r__16, ad_32, o_33, ()), rfl, ⟨false, rfl, ⟨hw, had_32⟩⟩, ⟨P_at ht hP, hD⟩⟩, hS.F ht⟩) hS.2.2 dL_isCombined_154
        · have hw := hw.1 c_34
          refine lv_aload_n hx hb dL_isCombined_139 rfl (lv_at hl 2 rfl) ?_
          refine lv_iload hx hb dL_isCombined_140 (lv_at hl 8 rfl) ?_
          obtain ⟨hPs, hDs⟩ := seg_call (segs := [[(a_r_, .inl (g 0, n_r_, .inl r__16))], [(a_q_6, .inl (g 0, n_7, .inl q_8))], [(a_q_12, .inl (g 0, n_13, .inl q_14))], [(a_q_27, .inl (g 0, n_28, .inl q_29))], offS ad_32 tp_p_ hd_p_ tf_p_ cf_p_ g o_33]) [[(a_r_, .inl (g 0, n_r_, .inl r__16))], [(a_q_6, .inl (g 0, n_7, .inl q_8))], [(a_q_12, .inl (g 0, n_13, .inl q_14))], [(a_q_27, .inl (g 0, n_28, .inl q_29))]] [offS ad_32 tp_p_ hd_p_ tf_p_ cf_p_ g o_33] 5 [0, 1, 2, 3, 4] rfl rfl (by decide) hP hD
          have hPc : va_P (dC, dI) vwCl (offS ad_32 tp_p_ hd_p_ tf_p_ cf_p_ g o_33) H_31 := P_r hPs
          have hDc : va_D A (offS ad_32 tp_p_ hd_p_ tf_p_ cf_p_ g o_33) := D_r hDs
          have hFc : ∀ q, va_A (offS ad_32 tp_p_ hd_p_ tf_p_ cf_p_ g o_33) H_31.size q → A q := A_all hDc hA hS.1
          refine va_callq (va_runS (As := [.ref t_p_, .int r_15]) (rest := []) ⟨hx, hb, hml, hown, hts⟩ (c_L_tape l hlf dC dI g (tp_p_ := tp_p_) (hd_p_ := hd_p_) (tf_p_ := tf_p_) (cf_p_ := cf_p_) (htf_p_ := htf_p_) (hcf_p_ := hcf_p_) (a_p_ := ad_32) (t_p_ := t_p_) (h_p_ := had_32) (o_p_ := o_33) (tape := r_15) (hw := hw) (sz := H_31.size)) (va_cwS 2 hts (gqS aw_3_158 aw_3_159 aw_1_0 aw_3_160) rfl rfl rfl (by decide +kernel) ⟨Nat.le_of_ble_eq_true rfl, Nat.le_of_ble_eq_true rfl⟩) ⟨PG_blind, PG_call hK hG hS hPc hDc hFc⟩ rfl rfl hl.1 rfl (lv_room (Nat.le_of_ble_eq_true rfl)) dL_isCombined_142 ⟨by rw [hrc]; omega, by rw [hrs]; omega⟩) hS (fun q _ h => hFc q h) hFc (fun r_35 u_35 t_35 H_35 L_35 ht_35 hvm_35 hw_35 hB_35 hz_35 hk_35 hS => ?_)
          obtain ⟨ad_36, o_37, a_q_38, n_39, q_40, u_35⟩ := u_35
          obtain ⟨rfl, ⟨hw, had_36⟩⟩ := hw_35
          rw [ht_35] at hB_35
          obtain ⟨hP1, hD1⟩ := hB_35
          obtain ⟨hP, hD⟩ := join_r hPs hDs hk_35 hFc hP1 hD1
          obtain ⟨hP, hD⟩ := seg_join [[(a_r_, .inl (g 0, n_r_, .inl r__16))], [(a_q_6, .inl (g 0, n_7, .inl q_8))], [(a_q_12, .inl (g 0, n_13, .inl q_14))], [(a_q_27, .inl (g 0, n_28, .inl q_29))]] [[(a_q_38, .inl (g 0, n_39, .inl q_40))], offS ad_36 tp_p_ hd_p_ tf_p_ cf_p_ g o_37] [[(a_r_, .inl (g 0, n_r_, .inl r__16))], [(a_q_6, .inl (g 0, n_7, .inl q_8))], [(a_q_12, .inl (g 0, n_13, .inl q_14))], [(a_q_27, .inl (g 0, n_28, .inl q_29))], [(a_q_38, .inl (g 0, n_39, .inl q_40))], offS ad_36 tp_p_ hd_p_ tf_p_ cf_p_ g o_37] 6 [0, 1, 2, 3, 4, 5] rfl rfl (by decide) hP hD
          have hP : va_P (dC, dI) vwCl ([(a_r_, .inl (g 0, n_r_, .inl r__16)), (a_q_6, .inl (g 0, n_7, .inl q_8)), (a_q_12, .inl (g 0, n_13, .inl q_14)), (a_q_27, .inl (g 0, n_28, .inl q_29)), (a_q_38, .inl (g 0, n_39, .inl q_40))] ++ (offS ad_36 tp_p_ hd_p_ tf_p_ cf_p_ g o_37)) H_35 := hP
          have hD : va_D A ([(a_r_, .inl (g 0, n_r_, .inl r__16)), (a_q_6, .inl (g 0, n_7, .inl q_8)), (a_q_12, .inl (g 0, n_13, .inl q_14)), (a_q_27, .inl (g 0, n_28, .inl q_29)), (a_q_38, .inl (g 0, n_39, .inl q_40))] ++ (offS ad_36 tp_p_ hd_p_ tf_p_ cf_p_ g o_37)) := hD
          refine W.widen (k := 91728) (n := 551532) (by omega) (by omega) ?_
          refine lv_aload hx hb dL_isCombined_145 (lv_at hl 0 rfl) ?_
          obtain ⟨hPs, hDs⟩ := seg_call (segs := [[(a_r_, .inl (g 0, n_r_, .inl r__16))], [(a_q_6, .inl (g 0, n_7, .inl q_8))], [(a_q_12, .inl (g 0, n_13, .inl q_14))], [(a_q_27, .inl (g 0, n_28, .inl q_29))], [(a_q_38, .inl (g 0, n_39, .inl q_40))], offS ad_36 tp_p_ hd_p_ tf_p_ cf_p_ g o_37]) [[(a_r_, .inl (g 0, n_r_, .inl r__16))], [(a_q_6, .inl (g 0, n_7, .inl q_8))], [(a_q_12, .inl (g 0, n_13, .inl q_14))], offS ad_36 tp_p_ hd_p_ tf_p_ cf_p_ g o_37] [[(a_q_38, .inl (g 0, n_39, .inl q_40))], [(a_q_27, .inl (g 0, n_28, .inl q_29))]] 6 [0, 1, 2, 5, 4, 3] rfl rfl (by decide) hP hD
          have hPc : va_P (dC, dI) vwCl [(a_q_38, .inl (g 0, n_39, .inl q_40)), (a_q_27, .inl (g 0, n_28, .inl q_29))] H_35 := P_r hPs
          have hDc : va_D A [(a_q_38, .inl (g 0, n_39, .inl q_40)), (a_q_27, .inl (g 0, n_28, .inl q_29))] := D_r hDs
          have hFc : ∀ q, va_A [(a_q_38, .inl (g 0, n_39, .inl q_40)), (a_q_27, .inl (g 0, n_28, .inl q_29))] H_35.size q → A q := A_all hDc hA hS.1
          refine va_calli (va_runS (As := [.ref a_q_38, .ref a_q_27]) (rest := []) ⟨hx, hb, hml, hown, hts⟩ (c_L_same l hlf dC dI g (a_a_ := a_q_38) (n_a_ := n_39) (a_ := q_40) (a_b_ := a_q_27) (n_b_ := n_28) (b_ := q_29) (hw := hw) (sz := H_35.size)) (va_cwS 2 hts (gqS aw_4_42 aw_4_43 aw_1_0 aw_4_44) rfl rfl rfl (by decide +kernel) ⟨Nat.le_of_ble_eq_true rfl, Nat.le_of_ble_eq_true rfl⟩) ⟨PG_blind, PG_call hK hG hS hPc hDc hFc⟩ rfl rfl hl.1 rfl (lv_room (Nat.le_of_ble_eq_true rfl)) dL_isCombined_147 ⟨by rw [hrc]; omega, by rw [hrs]; omega⟩) hS (fun q _ h => hFc q h) hFc (fun r_41 u_41 t_41 H_41 L_41 ht_41 hvm_41 hw_41 hB_41 hz_41 hk_41 hS => ?_)
          obtain ⟨u_41⟩ := u_41
          obtain ⟨b_41, rfl, hw⟩ := hw_41
          rw [ht_41] at hB_41
          obtain ⟨hP1, hD1⟩ := hB_41
          obtain ⟨hP, hD⟩ := join_r hPs hDs hk_41 hFc hP1 hD1
          obtain ⟨hP, hD⟩ := seg_join [[(a_r_, .inl (g 0, n_r_, .inl r__16))], [(a_q_6, .inl (g 0, n_7, .inl q_8))], [(a_q_12, .inl (g 0, n_13, .inl q_14))], offS ad_36 tp_p_ hd_p_ tf_p_ cf_p_ g o_37] [[(a_q_38, .inl (g 0, n_39, .inl q_40))], [(a_q_27, .inl (g 0, n_28, .inl q_29))]] [[(a_r_, .inl (g 0, n_r_, .inl r__16))], [(a_q_6, .inl (g 0, n_7, .inl q_8))], [(a_q_12, .inl (g 0, n_13, .inl q_14))], [(a_q_27, .inl (g 0, n_28, .inl q_29))], [(a_q_38, .inl (g 0, n_39, .inl q_40))], offS ad_36 tp_p_ hd_p_ tf_p_ cf_p_ g o_37] 6 [0, 1, 2, 5, 4, 3] rfl rfl (by decide) hP hD
          have hP : va_P (dC, dI) vwCl ([(a_r_, .inl (g 0, n_r_, .inl r__16)), (a_q_6, .inl (g 0, n_7, .inl q_8)), (a_q_12, .inl (g 0, n_13, .inl q_14)), (a_q_27, .inl (g 0, n_28, .inl q_29)), (a_q_38, .inl (g 0, n_39, .inl q_40))] ++ (offS ad_36 tp_p_ hd_p_ tf_p_ cf_p_ g o_37)) H_41 := hP
          have hD : va_D A ([(a_r_, .inl (g 0, n_r_, .inl r__16)), (a_q_6, .inl (g 0, n_7, .inl q_8)), (a_q_12, .inl (g 0, n_13, .inl q_14)), (a_q_27, .inl (g 0, n_28, .inl q_29)), (a_q_38, .inl (g 0, n_39, .inl q_40))] ++ (offS ad_36 tp_p_ hd_p_ tf_p_ cf_p_ g o_37)) := hD
          refine W.widen (k := 91728) (n := 551532) (by omega) (by omega) ?_
          refine lv_if_ne (tgt := 155) hx hb dL_isCombined_150 (by decide) (fun c_42 => ?_) (fun c_42 => ?_)
          · have hw := hw.2 (b2i_1 c_42)
            refine lv_iload hx hb dL_isCombined_155 (lv_at hl 8 rfl) ?_
            refine lv_iload_n hx hb dL_isCombined_157 rfl (lv_at hl 3 rfl) ?_
            have JN174 : ∀ (o_43 : OS) (ad_44 : Nat → Nat) (had_44 : ad_44 0 = t_p_) (H : Heap) (locs : List Loc), (wj_L_isCombined_174 b_ Q n_13 q_14 r__16 r_15) o_43 → va_P (dC, dI) vwCl ([(a_r_, .inl (g 0, n_r_, .inl r__16)), (a_q_12, .inl (g 0, n_13, .inl q_14))] ++ (offS ad_44 tp_p_ hd_p_ tf_p_ cf_p_ g o_43)) H → va_D A ([(a_r_, .inl (g 0, n_r_, .inl r__16)), (a_q_12, .inl (g 0, n_13, .inl q_14))] ++ (offS ad_44 tp_p_ hd_p_ tf_p_ cf_p_ g o_43)) → va_S A s.heap H locs → ∀ (ls : Array Slot), lv_has ls 10 [(0, .ref t_p_), (3, .int b_), (6, .ref a_q_12), (7, .int r_15)] → W p l e (headSpec wqL_isCombined ({ frames := 11, cells := 92136, slots := 554368, locals := 203 })).room s m ([.ref t_p_, .ref a_r_, .int a_, .int b_] : List Value).toArray below meth c H locs 91932 552950 QM (F0 m 174 ls []) := by
              intro o_43 ad_44 had_44 H locs hw hP hD hS ls hl
              refine lv_iload hx hb dL_isCombined_174 (lv_at hl 3 rfl) ?_
              refine lv_iload_n hx hb dL_isCombined_176 rfl (lv_at hl 1 rfl) ?_
              refine lv_icmp_eq (tgt := 193) hx hb dL_isCombined_177 (by decide) (fun c_45 => ?_) (fun c_45 => ?_)
              · have hw := hw.1 c_45
                refine lv_iconst (v := 1) hx hb dL_isCombined_193 (by decide) ?_
                refine lv_goto (tgt := 198) hx hb dL_isCombined_194 (by decide) ?_
                refine W.widen (k := 92136) (n := 554368) (by omega) (by omega) ?_
                subst hQM
                obtain ⟨hP, hD⟩ := seg_sub (segs := [[(a_r_, .inl (g 0, n_r_, .inl r__16))], [(a_q_12, .inl (g 0, n_13, .inl q_14))], offS ad_44 tp_p_ hd_p_ tf_p_ cf_p_ g o_43]) [[(a_r_, .inl (g 0, n_r_, .inl r__16))], offS ad_44 tp_p_ hd_p_ tf_p_ cf_p_ g o_43] [[(a_q_12, .inl (g 0, n_13, .inl q_14))]] 3 [0, 2, 1] rfl rfl (by decide) hP hD
                exact W.zret (v := 1) hx hb hr rfl (fun t ht hW => ⟨⟨_, (r__16, ad_44, o_43, ()), rfl, ⟨true, rfl, ⟨hw, had_44⟩⟩, ⟨P_at ht hP, hD⟩⟩, hS.F ht⟩) hS.2.2 dL_isCombined_198
              · have hw := hw.2 c_45
                refine lv_aload_n hx hb dL_isCombined_180 rfl (lv_at hl 0 rfl) ?_
                refine lv_iload_n hx hb dL_isCombined_181 rfl (lv_at hl 1 rfl) ?_
                obtain ⟨hPs, hDs⟩ := seg_call (segs := [[(a_r_, .inl (g 0, n_r_, .inl r__16))], [(a_q_12, .inl (g 0, n_13, .inl q_14))], offS ad_44 tp_p_ hd_p_ tf_p_ cf_p_ g o_43]) [[(a_r_, .inl (g 0, n_r_, .inl r__16))], [(a_q_12, .inl (g 0, n_13, .inl q_14))]] [offS ad_44 tp_p_ hd_p_ tf_p_ cf_p_ g o_43] 3 [0, 1, 2] rfl rfl (by decide) hP hD
                have hPc : va_P (dC, dI) vwCl (offS ad_44 tp_p_ hd_p_ tf_p_ cf_p_ g o_43) H := P_r hPs
                have hDc : va_D A (offS ad_44 tp_p_ hd_p_ tf_p_ cf_p_ g o_43) := D_r hDs
                have hFc : ∀ q, va_A (offS ad_44 tp_p_ hd_p_ tf_p_ cf_p_ g o_43) H.size q → A q := A_all hDc hA hS.1
                refine va_callq (va_runS (As := [.ref t_p_, .int b_]) (rest := []) ⟨hx, hb, hml, hown, hts⟩ (c_L_tape l hlf dC dI g (tp_p_ := tp_p_) (hd_p_ := hd_p_) (tf_p_ := tf_p_) (cf_p_ := cf_p_) (htf_p_ := htf_p_) (hcf_p_ := hcf_p_) (a_p_ := ad_44) (t_p_ := t_p_) (h_p_ := had_44) (o_p_ := o_43) (tape := b_) (hw := hw) (sz := H.size)) (va_cwS 2 hts (gqS aw_3_158 aw_3_159 aw_1_0 aw_3_160) rfl rfl rfl (by decide +kernel) ⟨Nat.le_of_ble_eq_true rfl, Nat.le_of_ble_eq_true rfl⟩) ⟨PG_blind, PG_call hK hG hS hPc hDc hFc⟩ rfl rfl hl.1 rfl (lv_room (Nat.le_of_ble_eq_true rfl)) dL_isCombined_182 ⟨by rw [hrc]; omega, by rw [hrs]; omega⟩) hS (fun q _ h => hFc q h) hFc (fun r_46 u_46 t_46 H_46 L_46 ht_46 hvm_46 hw_46 hB_46 hz_46 hk_46 hS => ?_)
                obtain ⟨ad_47, o_48, a_q_49, n_50, q_51, u_46⟩ := u_46
                obtain ⟨rfl, ⟨hw, had_47⟩⟩ := hw_46
                rw [ht_46] at hB_46
                obtain ⟨hP1, hD1⟩ := hB_46
                obtain ⟨hP, hD⟩ := join_r hPs hDs hk_46 hFc hP1 hD1
                obtain ⟨hP, hD⟩ := seg_join [[(a_r_, .inl (g 0, n_r_, .inl r__16))], [(a_q_12, .inl (g 0, n_13, .inl q_14))]] [[(a_q_49, .inl (g 0, n_50, .inl q_51))], offS ad_47 tp_p_ hd_p_ tf_p_ cf_p_ g o_48] [[(a_r_, .inl (g 0, n_r_, .inl r__16))], [(a_q_12, .inl (g 0, n_13, .inl q_14))], [(a_q_49, .inl (g 0, n_50, .inl q_51))], offS ad_47 tp_p_ hd_p_ tf_p_ cf_p_ g o_48] 4 [0, 1, 2, 3] rfl rfl (by decide) hP hD
                have hP : va_P (dC, dI) vwCl ([(a_r_, .inl (g 0, n_r_, .inl r__16)), (a_q_12, .inl (g 0, n_13, .inl q_14)), (a_q_49, .inl (g 0, n_50, .inl q_51))] ++ (offS ad_47 tp_p_ hd_p_ tf_p_ cf_p_ g o_48)) H_46 := hP
                have hD : va_D A ([(a_r_, .inl (g 0, n_r_, .inl r__16)), (a_q_12, .inl (g 0, n_13, .inl q_14)), (a_q_49, .inl (g 0, n_50, .inl q_51))] ++ (offS ad_47 tp_p_ hd_p_ tf_p_ cf_p_ g o_48)) := hD
                refine W.widen (k := 92136) (n := 554368) (by omega) (by omega) ?_
                refine lv_aload hx hb dL_isCombined_185 (lv_at hl 2 rfl) ?_
                obtain ⟨hPs, hDs⟩ := seg_call (segs := [[(a_r_, .inl (g 0, n_r_, .inl r__16))], [(a_q_12, .inl (g 0, n_13, .inl q_14))], [(a_q_49, .inl (g 0, n_50, .inl q_51))], offS ad_47 tp_p_ hd_p_ tf_p_ cf_p_ g o_48]) [[(a_r_, .inl (g 0, n_r_, .inl r__16))], offS ad_47 tp_p_ hd_p_ tf_p_ cf_p_ g o_48] [[(a_q_49, .inl (g 0, n_50, .inl q_51))], [(a_q_12, .inl (g 0, n_13, .inl q_14))]] 4 [0, 3, 2, 1] rfl rfl (by decide) hP hD
                have hPc : va_P (dC, dI) vwCl [(a_q_49, .inl (g 0, n_50, .inl q_51)), (a_q_12, .inl (g 0, n_13, .inl q_14))] H_46 := P_r hPs
                have hDc : va_D A [(a_q_49, .inl (g 0, n_50, .inl q_51)), (a_q_12, .inl (g 0, n_13, .inl q_14))] := D_r hDs
                have hFc : ∀ q, va_A [(a_q_49, .inl (g 0, n_50, .inl q_51)), (a_q_12, .inl (g 0, n_13, .inl q_14))] H_46.size q → A q := A_all hDc hA hS.1
                refine va_calli (va_runS (As := [.ref a_q_49, .ref a_q_12]) (rest := []) ⟨hx, hb, hml, hown, hts⟩ (c_L_same l hlf dC dI g (a_a_ := a_q_49) (n_a_ := n_50) (a_ := q_51) (a_b_ := a_q_12) (n_b_ := n_13) (b_ := q_14) (hw := hw) (sz := H_46.size)) (va_cwS 2 hts (gqS aw_4_42 aw_4_43 aw_1_0 aw_4_44) rfl rfl rfl (by decide +kernel) ⟨Nat.le_of_ble_eq_true rfl, Nat.le_of_ble_eq_true rfl⟩) ⟨PG_blind, PG_call hK hG hS hPc hDc hFc⟩ rfl rfl hl.1 rfl (lv_room (Nat.le_of_ble_eq_true rfl)) dL_isCombined_187 ⟨by rw [hrc]; omega, by rw [hrs]; omega⟩) hS (fun q _ h => hFc q h) hFc (fun r_52 u_52 t_52 H_52 L_52 ht_52 hvm_52 hw_52 hB_52 hz_52 hk_52 hS => ?_)
                obtain ⟨u_52⟩ := u_52
                obtain ⟨b_52, rfl, hw⟩ := hw_52
                rw [ht_52] at hB_52
                obtain ⟨hP1, hD1⟩ := hB_52
                obtain ⟨hP, hD⟩ := join_r hPs hDs hk_52 hFc hP1 hD1
                obtain ⟨hP, hD⟩ := seg_join [[(a_r_, .inl (g 0, n_r_, .inl r__16))], offS ad_47 tp_p_ hd_p_ tf_p_ cf_p_ g o_48] [[(a_q_49, .inl (g 0, n_50, .inl q_51))], [(a_q_12, .inl (g 0, n_13, .inl q_14))]] [[(a_r_, .inl (g 0, n_r_, .inl r__16))], [(a_q_12, .inl (g 0, n_13, .inl q_14))], [(a_q_49, .inl (g 0, n_50, .inl q_51))], offS ad_47 tp_p_ hd_p_ tf_p_ cf_p_ g o_48] 4 [0, 3, 2, 1] rfl rfl (by decide) hP hD
                have hP : va_P (dC, dI) vwCl ([(a_r_, .inl (g 0, n_r_, .inl r__16)), (a_q_12, .inl (g 0, n_13, .inl q_14)), (a_q_49, .inl (g 0, n_50, .inl q_51))] ++ (offS ad_47 tp_p_ hd_p_ tf_p_ cf_p_ g o_48)) H_52 := hP
                have hD : va_D A ([(a_r_, .inl (g 0, n_r_, .inl r__16)), (a_q_12, .inl (g 0, n_13, .inl q_14)), (a_q_49, .inl (g 0, n_50, .inl q_51))] ++ (offS ad_47 tp_p_ hd_p_ tf_p_ cf_p_ g o_48)) := hD
                refine W.widen (k := 92136) (n := 554368) (by omega) (by omega) ?_
                refine lv_if_eq (tgt := 197) hx hb dL_isCombined_190 (by decide) (fun c_53 => ?_) (fun c_53 => ?_)
                · have hw := hw.1 (b2i_0 c_53)
                  refine lv_iconst (v := 0) hx hb dL_isCombined_197 (by decide) ?_
                  refine W.widen (k := 92136) (n := 554368) (by omega) (by omega) ?_
                  subst hQM
                  obtain ⟨hP, hD⟩ := seg_sub (segs := [[(a_r_, .inl (g 0, n_r_, .inl r__16))], [(a_q_12, .inl (g 0, n_13, .inl q_14))], [(a_q_49, .inl (g 0, n_50, .inl q_51))], offS ad_47 tp_p_ hd_p_ tf_p_ cf_p_ g o_48]) [[(a_r_, .inl (g 0, n_r_, .inl r__16))], offS ad_47 tp_p_ hd_p_ tf_p_ cf_p_ g o_48] [[(a_q_12, .inl (g 0, n_13, .inl q_14))], [(a_q_49, .inl (g 0, n_50, .inl q_51))]] 4 [0, 3, 1, 2] rfl rfl (by decide) hP hD
                  exact W.zret (v := 0) hx hb hr rfl (fun t ht hW => ⟨⟨_, (r__16, ad_47, o_48, ()), rfl, ⟨false, rfl, ⟨hw, had_47⟩⟩, ⟨P_at ht hP, hD⟩⟩, hS.F ht⟩) hS.2.2 dL_isCombined_198
                · have hw := hw.2 (b2i_1 c_53)
                  refine lv_iconst (v := 1) hx hb dL_isCombined_193 (by decide) ?_
                  refine lv_goto (tgt := 198) hx hb dL_isCombined_194 (by decide) ?_
                  refine W.widen (k := 92136) (n := 554368) (by omega) (by omega) ?_
                  subst hQM
                  obtain ⟨hP, hD⟩ := seg_sub (segs := [[(a_r_, .inl (g 0, n_r_, .inl r__16))], [(a_q_12, .inl (g 0, n_13, .inl q_14))], [(a_q_49, .inl (g 0, n_50, .inl q_51))], offS ad_47 tp_p_ hd_p_ tf_p_ cf_p_ g o_48]) [[(a_r_, .inl (g 0, n_r_, .inl r__16))], offS ad_47 tp_p_ hd_p_ tf_p_ cf_p_ g o_48] [[(a_q_12, .inl (g 0, n_13, .inl q_14))], [(a_q_49, .inl (g 0, n_50, .inl q_51))]] 4 [0, 3, 1, 2] rfl rfl (by decide) hP hD
                  exact W.zret (v := 1) hx hb hr rfl (fun t ht hW => ⟨⟨_, (r__16, ad_47, o_48, ()), rfl, ⟨true, rfl, ⟨hw, had_47⟩⟩, ⟨P_at ht hP, hD⟩⟩, hS.F ht⟩) hS.2.2 dL_isCombined_198
            refine lv_icmp_eq (tgt := 174) hx hb dL_isCombined_158 (by decide) (fun c_54 => ?_) (fun c_54 => ?_)
            · have hw := hw.1 c_54
              obtain ⟨hP, hD⟩ := seg_sub (segs := [[(a_r_, .inl (g 0, n_r_, .inl r__16))], [(a_q_6, .inl (g 0, n_7, .inl q_8))], [(a_q_12, .inl (g 0, n_13, .inl q_14))], [(a_q_27, .inl (g 0, n_28, .inl q_29))], [(a_q_38, .inl (g 0, n_39, .inl q_40))], offS ad_36 tp_p_ hd_p_ tf_p_ cf_p_ g o_37]) [[(a_r_, .inl (g 0, n_r_, .inl r__16))], [(a_q_12, .inl (g 0, n_13, .inl q_14))], offS ad_36 tp_p_ hd_p_ tf_p_ cf_p_ g o_37] [[(a_q_6, .inl (g 0, n_7, .inl q_8))], [(a_q_27, .inl (g 0, n_28, .inl q_29))], [(a_q_38, .inl (g 0, n_39, .inl q_40))]] 6 [0, 2, 5, 1, 3, 4] rfl rfl (by decide) hP hD
              refine W.widen (k := 91932) (n := 552950) (by omega) (by omega) ?_
              exact JN174 o_37 ad_36 had_36 _ _ hw hP hD hS _ (lv_sub hl [2, 4, 7, 8] rfl)
            · have hw := hw.2 c_54
              refine lv_aload_n hx hb dL_isCombined_161 rfl (lv_at hl 2 rfl) ?_
              refine lv_iload_n hx hb dL_isCombined_162 rfl (lv_at hl 3 rfl) ?_
              obtain ⟨hPs, hDs⟩ := seg_call (segs := [[(a_r_, .inl (g 0, n_r_, .inl r__16))], [(a_q_6, .inl (g 0, n_7, .inl q_8))], [(a_q_12, .inl (g 0, n_13, .inl q_14))], [(a_q_27, .inl (g 0, n_28, .inl q_29))], [(a_q_38, .inl (g 0, n_39, .inl q_40))], offS ad_36 tp_p_ hd_p_ tf_p_ cf_p_ g o_37]) [[(a_r_, .inl (g 0, n_r_, .inl r__16))], [(a_q_6, .inl (g 0, n_7, .inl q_8))], [(a_q_12, .inl (g 0, n_13, .inl q_14))], [(a_q_27, .inl (g 0, n_28, .inl q_29))], [(a_q_38, .inl (g 0, n_39, .inl q_40))]] [offS ad_36 tp_p_ hd_p_ tf_p_ cf_p_ g o_37] 6 [0, 1, 2, 3, 4, 5] rfl rfl (by decide) hP hD
              have hPc : va_P (dC, dI) vwCl (offS ad_36 tp_p_ hd_p_ tf_p_ cf_p_ g o_37) H_41 := P_r hPs
              have hDc : va_D A (offS ad_36 tp_p_ hd_p_ tf_p_ cf_p_ g o_37) := D_r hDs
              have hFc : ∀ q, va_A (offS ad_36 tp_p_ hd_p_ tf_p_ cf_p_ g o_37) H_41.size q → A q := A_all hDc hA hS.1
              refine va_callq (va_runS (As := [.ref t_p_, .int a_]) (rest := []) ⟨hx, hb, hml, hown, hts⟩ (c_L_tape l hlf dC dI g (tp_p_ := tp_p_) (hd_p_ := hd_p_) (tf_p_ := tf_p_) (cf_p_ := cf_p_) (htf_p_ := htf_p_) (hcf_p_ := hcf_p_) (a_p_ := ad_36) (t_p_ := t_p_) (h_p_ := had_36) (o_p_ := o_37) (tape := a_) (hw := hw) (sz := H_41.size)) (va_cwS 2 hts (gqS aw_3_158 aw_3_159 aw_1_0 aw_3_160) rfl rfl rfl (by decide +kernel) ⟨Nat.le_of_ble_eq_true rfl, Nat.le_of_ble_eq_true rfl⟩) ⟨PG_blind, PG_call hK hG hS hPc hDc hFc⟩ rfl rfl hl.1 rfl (lv_room (Nat.le_of_ble_eq_true rfl)) dL_isCombined_163 ⟨by rw [hrc]; omega, by rw [hrs]; omega⟩) hS (fun q _ h => hFc q h) hFc (fun r_55 u_55 t_55 H_55 L_55 ht_55 hvm_55 hw_55 hB_55 hz_55 hk_55 hS => ?_)
              obtain ⟨ad_56, o_57, a_q_58, n_59, q_60, u_55⟩ := u_55
              obtain ⟨rfl, ⟨hw, had_56⟩⟩ := hw_55
              rw [ht_55] at hB_55
              obtain ⟨hP1, hD1⟩ := hB_55
              obtain ⟨hP, hD⟩ := join_r hPs hDs hk_55 hFc hP1 hD1
              obtain ⟨hP, hD⟩ := seg_join [[(a_r_, .inl (g 0, n_r_, .inl r__16))], [(a_q_6, .inl (g 0, n_7, .inl q_8))], [(a_q_12, .inl (g 0, n_13, .inl q_14))], [(a_q_27, .inl (g 0, n_28, .inl q_29))], [(a_q_38, .inl (g 0, n_39, .inl q_40))]] [[(a_q_58, .inl (g 0, n_59, .inl q_60))], offS ad_56 tp_p_ hd_p_ tf_p_ cf_p_ g o_57] [[(a_r_, .inl (g 0, n_r_, .inl r__16))], [(a_q_6, .inl (g 0, n_7, .inl q_8))], [(a_q_12, .inl (g 0, n_13, .inl q_14))], [(a_q_27, .inl (g 0, n_28, .inl q_29))], [(a_q_38, .inl (g 0, n_39, .inl q_40))], [(a_q_58, .inl (g 0, n_59, .inl q_60))], offS ad_56 tp_p_ hd_p_ tf_p_ cf_p_ g o_57] 7 [0, 1, 2, 3, 4, 5, 6] rfl rfl (by decide) hP hD
              have hP : va_P (dC, dI) vwCl ([(a_r_, .inl (g 0, n_r_, .inl r__16)), (a_q_6, .inl (g 0, n_7, .inl q_8)), (a_q_12, .inl (g 0, n_13, .inl q_14)), (a_q_27, .inl (g 0, n_28, .inl q_29)), (a_q_38, .inl (g 0, n_39, .inl q_40)), (a_q_58, .inl (g 0, n_59, .inl q_60))] ++ (offS ad_56 tp_p_ hd_p_ tf_p_ cf_p_ g o_57)) H_55 := hP
              have hD : va_D A ([(a_r_, .inl (g 0, n_r_, .inl r__16)), (a_q_6, .inl (g 0, n_7, .inl q_8)), (a_q_12, .inl (g 0, n_13, .inl q_14)), (a_q_27, .inl (g 0, n_28, .inl q_29)), (a_q_38, .inl (g 0, n_39, .inl q_40)), (a_q_58, .inl (g 0, n_59, .inl q_60))] ++ (offS ad_56 tp_p_ hd_p_ tf_p_ cf_p_ g o_57)) := hD
              refine W.widen (k := 91932) (n := 552950) (by omega) (by omega) ?_
              refine lv_aload hx hb dL_isCombined_166 (lv_at hl 6 rfl) ?_
              obtain ⟨hPs, hDs⟩ := seg_call (segs := [[(a_r_, .inl (g 0, n_r_, .inl r__16))], [(a_q_6, .inl (g 0, n_7, .inl q_8))], [(a_q_12, .inl (g 0, n_13, .inl q_14))], [(a_q_27, .inl (g 0, n_28, .inl q_29))], [(a_q_38, .inl (g 0, n_39, .inl q_40))], [(a_q_58, .inl (g 0, n_59, .inl q_60))], offS ad_56 tp_p_ hd_p_ tf_p_ cf_p_ g o_57]) [[(a_r_, .inl (g 0, n_r_, .inl r__16))], [(a_q_12, .inl (g 0, n_13, .inl q_14))], [(a_q_27, .inl (g 0, n_28, .inl q_29))], [(a_q_38, .inl (g 0, n_39, .inl q_40))], offS ad_56 tp_p_ hd_p_ tf_p_ cf_p_ g o_57] [[(a_q_58, .inl (g 0, n_59, .inl q_60))], [(a_q_6, .inl (g 0, n_7, .inl q_8))]] 7 [0, 2, 3, 4, 6, 5, 1] rfl rfl (by decide) hP hD
              have hPc : va_P (dC, dI) vwCl [(a_q_58, .inl (g 0, n_59, .inl q_60)), (a_q_6, .inl (g 0, n_7, .inl q_8))] H_55 := P_r hPs
              have hDc : va_D A [(a_q_58, .inl (g 0, n_59, .inl q_60)), (a_q_6, .inl (g 0, n_7, .inl q_8))] := D_r hDs
              have hFc : ∀ q, va_A [(a_q_58, .inl (g 0, n_59, .inl q_60)), (a_q_6, .inl (g 0, n_7, .inl q_8))] H_55.size q → A q := A_all hDc hA hS.1
              refine va_calli (va_runS (As := [.ref a_q_58, .ref a_q_6]) (rest := []) ⟨hx, hb, hml, hown, hts⟩ (c_L_same l hlf dC dI g (a_a_ := a_q_58) (n_a_ := n_59) (a_ := q_60) (a_b_ := a_q_6) (n_b_ := n_7) (b_ := q_8) (hw := hw) (sz := H_55.size)) (va_cwS 2 hts (gqS aw_4_42 aw_4_43 aw_1_0 aw_4_44) rfl rfl rfl (by decide +kernel) ⟨Nat.le_of_ble_eq_true rfl, Nat.le_of_ble_eq_true rfl⟩) ⟨PG_blind, PG_call hK hG hS hPc hDc hFc⟩ rfl rfl hl.1 rfl (lv_room (Nat.le_of_ble_eq_true rfl)) dL_isCombined_168 ⟨by rw [hrc]; omega, by rw [hrs]; omega⟩) hS (fun q _ h => hFc q h) hFc (fun r_61 u_61 t_61 H_61 L_61 ht_61 hvm_61 hw_61 hB_61 hz_61 hk_61 hS => ?_)
              obtain ⟨u_61⟩ := u_61
              obtain ⟨b_61, rfl, hw⟩ := hw_61
              rw [ht_61] at hB_61
              obtain ⟨hP1, hD1⟩ := hB_61
              obtain ⟨hP, hD⟩ := join_r hPs hDs hk_61 hFc hP1 hD1
              obtain ⟨hP, hD⟩ := seg_join [[(a_r_, .inl (g 0, n_r_, .inl r__16))], [(a_q_12, .inl (g 0, n_13, .inl q_14))], [(a_q_27, .inl (g 0, n_28, .inl q_29))], [(a_q_38, .inl (g 0, n_39, .inl q_40))], offS ad_56 tp_p_ hd_p_ tf_p_ cf_p_ g o_57] [[(a_q_58, .inl (g 0, n_59, .inl q_60))], [(a_q_6, .inl (g 0, n_7, .inl q_8))]] [[(a_r_, .inl (g 0, n_r_, .inl r__16))], [(a_q_6, .inl (g 0, n_7, .inl q_8))], [(a_q_12, .inl (g 0, n_13, .inl q_14))], [(a_q_27, .inl (g 0, n_28, .inl q_29))], [(a_q_38, .inl (g 0, n_39, .inl q_40))], [(a_q_58, .inl (g 0, n_59, .inl q_60))], offS ad_56 tp_p_ hd_p_ tf_p_ cf_p_ g o_57] 7 [0, 6, 1, 2, 3, 5, 4] rfl rfl (by decide) hP hD
              have hP : va_P (dC, dI) vwCl ([(a_r_, .inl (g 0, n_r_, .inl r__16)), (a_q_6, .inl (g 0, n_7, .inl q_8)), (a_q_12, .inl (g 0, n_13, .inl q_14)), (a_q_27, .inl (g 0, n_28, .inl q_29)), (a_q_38, .inl (g 0, n_39, .inl q_40)), (a_q_58, .inl (g 0, n_59, .inl q_60))] ++ (offS ad_56 tp_p_ hd_p_ tf_p_ cf_p_ g o_57)) H_61 := hP
              have hD : va_D A ([(a_r_, .inl (g 0, n_r_, .inl r__16)), (a_q_6, .inl (g 0, n_7, .inl q_8)), (a_q_12, .inl (g 0, n_13, .inl q_14)), (a_q_27, .inl (g 0, n_28, .inl q_29)), (a_q_38, .inl (g 0, n_39, .inl q_40)), (a_q_58, .inl (g 0, n_59, .inl q_60))] ++ (offS ad_56 tp_p_ hd_p_ tf_p_ cf_p_ g o_57)) := hD
              refine W.widen (k := 91932) (n := 552950) (by omega) (by omega) ?_
              refine lv_if_eq (tgt := 197) hx hb dL_isCombined_171 (by decide) (fun c_62 => ?_) (fun c_62 => ?_)
              · have hw := hw.1 (b2i_0 c_62)
                refine lv_iconst (v := 0) hx hb dL_isCombined_197 (by decide) ?_
                refine W.widen (k := 92136) (n := 554368) (by omega) (by omega) ?_
                subst hQM
                obtain ⟨hP, hD⟩ := seg_sub (segs := [[(a_r_, .inl (g 0, n_r_, .inl r__16))], [(a_q_6, .inl (g 0, n_7, .inl q_8))], [(a_q_12, .inl (g 0, n_13, .inl q_14))], [(a_q_27, .inl (g 0, n_28, .inl q_29))], [(a_q_38, .inl (g 0, n_39, .inl q_40))], [(a_q_58, .inl (g 0, n_59, .inl q_60))], offS ad_56 tp_p_ hd_p_ tf_p_ cf_p_ g o_57]) [[(a_r_, .inl (g 0, n_r_, .inl r__16))], offS ad_56 tp_p_ hd_p_ tf_p_ cf_p_ g o_57] [[(a_q_6, .inl (g 0, n_7, .inl q_8))], [(a_q_12, .inl (g 0, n_13, .inl q_14))], [(a_q_27, .inl (g 0, n_28, .inl q_29))], [(a_q_38, .inl (g 0, n_39, .inl q_40))], [(a_q_58, .inl (g 0, n_59, .inl q_60))]] 7 [0, 6, 1, 2, 3, 4, 5] rfl rfl (by decide) hP hD
                exact W.zret (v := 0) hx hb hr rfl (fun t ht hW => ⟨⟨_, (r__16, ad_56, o_57, ()), rfl, ⟨false, rfl, ⟨hw, had_56⟩⟩, ⟨P_at ht hP, hD⟩⟩, hS.F ht⟩) hS.2.2 dL_isCombined_198
              · have hw := hw.2 (b2i_1 c_62)
                obtain ⟨hP, hD⟩ := seg_sub (segs := [[(a_r_, .inl (g 0, n_r_, .inl r__16))], [(a_q_6, .inl (g 0, n_7, .inl q_8))], [(a_q_12, .inl (g 0, n_13, .inl q_14))], [(a_q_27, .inl (g 0, n_28, .inl q_29))], [(a_q_38, .inl (g 0, n_39, .inl q_40))], [(a_q_58, .inl (g 0, n_59, .inl q_60))], offS ad_56 tp_p_ hd_p_ tf_p_ cf_p_ g o_57]) [[(a_r_, .inl (g 0, n_r_, .inl r__16))], [(a_q_12, .inl (g 0, n_13, .inl q_14))], offS ad_56 tp_p_ hd_p_ tf_p_ cf_p_ g o_57] [[(a_q_6, .inl (g 0, n_7, .inl q_8))], [(a_q_27, .inl (g 0, n_28, .inl q_29))], [(a_q_38, .inl (g 0, n_39, .inl q_40))], [(a_q_58, .inl (g 0, n_59, .inl q_60))]] 7 [0, 2, 6, 1, 3, 4, 5] rfl rfl (by decide) hP hD
                refine W.widen (k := 91932) (n := 552950) (by omega) (by omega) ?_
                exact JN174 o_57 ad_56 had_56 _ _ hw hP hD hS _ (lv_sub hl [2, 4, 7, 8] rfl)
          · have hw := hw.1 (b2i_0 c_42)
            refine lv_iconst (v := 0) hx hb dL_isCombined_153 (by decide) ?_
            refine W.widen (k := 92136) (n := 554368) (by omega) (by omega) ?_
            subst hQM
            obtain ⟨hP, hD⟩ := seg_sub (segs := [[(a_r_, .inl (g 0, n_r_, .inl r__16))], [(a_q_6, .inl (g 0, n_7, .inl q_8))], [(a_q_12, .inl (g 0, n_13, .inl q_14))], [(a_q_27, .inl (g 0, n_28, .inl q_29))], [(a_q_38, .inl (g 0, n_39, .inl q_40))], offS ad_36 tp_p_ hd_p_ tf_p_ cf_p_ g o_37]) [[(a_r_, .inl (g 0, n_r_, .inl r__16))], offS ad_36 tp_p_ hd_p_ tf_p_ cf_p_ g o_37] [[(a_q_6, .inl (g 0, n_7, .inl q_8))], [(a_q_12, .inl (g 0, n_13, .inl q_14))], [(a_q_27, .inl (g 0, n_28, .inl q_29))], [(a_q_38, .inl (g 0, n_39, .inl q_40))]] 6 [0, 5, 1, 2, 3, 4] rfl rfl (by decide) hP hD
            exact W.zret (v := 0) hx hb hr rfl (fun t ht hW => ⟨⟨_, (r__16, ad_36, o_37, ()), rfl, ⟨false, rfl, ⟨hw, had_36⟩⟩, ⟨P_at ht hP, hD⟩⟩, hS.F ht⟩) hS.2.2 dL_isCombined_154
      · have hw := hw.2 c_30
        refine lv_aload_n hx hb dL_isCombined_101 rfl (lv_at hl 2 rfl) ?_
        refine lv_bipush (v := 18) hx hb dL_isCombined_102 (by decide) ?_
        refine lv_iload_n hx hb dL_isCombined_104 rfl (lv_at hl 3 rfl) ?_
        refine lv_iload_n hx hb dL_isCombined_105 rfl (lv_at hl 4 rfl) ?_
        refine lv_iload hx hb dL_isCombined_106 (lv_at hl 5 rfl) ?_
        obtain ⟨hPs, hDs⟩ := seg_call (segs := [[(a_r_, .inl (g 0, n_r_, .inl r__16))], [(a_q_6, .inl (g 0, n_7, .inl q_8))], [(a_q_12, .inl (g 0, n_13, .inl q_14))], [(a_q_27, .inl (g 0, n_28, .inl q_29))], offS ad_25 tp_p_ hd_p_ tf_p_ cf_p_ g o_26]) [[(a_r_, .inl (g 0, n_r_, .inl r__16))], [(a_q_6, .inl (g 0, n_7, .inl q_8))], [(a_q_12, .inl (g 0, n_13, .inl q_14))], [(a_q_27, .inl (g 0, n_28, .inl q_29))]] [offS ad_25 tp_p_ hd_p_ tf_p_ cf_p_ g o_26] 5 [0, 1, 2, 3, 4] rfl rfl (by decide) hP hD
        have hPc : va_P (dC, dI) vwCl (offS ad_25 tp_p_ hd_p_ tf_p_ cf_p_ g o_26) H_24 := P_r hPs
        have hDc : va_D A (offS ad_25 tp_p_ hd_p_ tf_p_ cf_p_ g o_26) := D_r hDs
        have hFc : ∀ q, va_A (offS ad_25 tp_p_ hd_p_ tf_p_ cf_p_ g o_26) H_24.size q → A q := A_all hDc hA hS.1
        refine va_calli (vx_runSW (As := [.ref t_p_, .int 18, .int a_, .int b_, .int r_1]) (rest := []) ⟨hx, hb, hml, hown, hts⟩ (c_L_asks_18 l hlf dC dI g (tp_p_ := tp_p_) (hd_p_ := hd_p_) (tf_p_ := tf_p_) (cf_p_ := cf_p_) (htf_p_ := htf_p_) (hcf_p_ := hcf_p_) (a_p_ := ad_25) (t_p_ := t_p_) (h_p_ := had_25) (o_p_ := o_26) (a_ := a_) (b_ := b_) (c_ := r_1) (hw := hw) (sz := H_24.size)) (vx_cwSW 5 hts (gqS aw_4_45 aw_4_46 aw_1_0 aw_4_47) rfl rfl rfl (by decide +kernel) ⟨Nat.le_of_ble_eq_true rfl, Nat.le_of_ble_eq_true rfl⟩) ⟨PG_blind, PG_call hK hG hS hPc hDc hFc⟩ rfl rfl hl.1 rfl (lv_room (Nat.le_of_ble_eq_true rfl)) dL_isCombined_108 ⟨by rw [hrc]; omega, by rw [hrs]; omega⟩) hS (fun q _ h => hFc q h) hFc (fun r_63 u_63 t_63 H_63 L_63 ht_63 hvm_63 hw_63 hB_63 hz_63 hk_63 hS => ?_)
        obtain ⟨ad_64, o_65, u_63⟩ := u_63
        obtain ⟨hw, had_64⟩ := hw_63
        rw [ht_63] at hB_63
        obtain ⟨hP1, hD1⟩ := hB_63
        obtain ⟨hP, hD⟩ := join_r hPs hDs hk_63 hFc hP1 hD1
        obtain ⟨hP, hD⟩ := seg_join [[(a_r_, .inl (g 0, n_r_, .inl r__16))], [(a_q_6, .inl (g 0, n_7, .inl q_8))], [(a_q_12, .inl (g 0, n_13, .inl q_14))], [(a_q_27, .inl (g 0, n_28, .inl q_29))]] [offS ad_64 tp_p_ hd_p_ tf_p_ cf_p_ g o_65] [[(a_r_, .inl (g 0, n_r_, .inl r__16))], [(a_q_6, .inl (g 0, n_7, .inl q_8))], [(a_q_12, .inl (g 0, n_13, .inl q_14))], [(a_q_27, .inl (g 0, n_28, .inl q_29))], offS ad_64 tp_p_ hd_p_ tf_p_ cf_p_ g o_65] 5 [0, 1, 2, 3, 4] rfl rfl (by decide) hP hD
        have hP : va_P (dC, dI) vwCl ([(a_r_, .inl (g 0, n_r_, .inl r__16)), (a_q_6, .inl (g 0, n_7, .inl q_8)), (a_q_12, .inl (g 0, n_13, .inl q_14)), (a_q_27, .inl (g 0, n_28, .inl q_29))] ++ (offS ad_64 tp_p_ hd_p_ tf_p_ cf_p_ g o_65)) H_63 := hP
        have hD : va_D A ([(a_r_, .inl (g 0, n_r_, .inl r__16)), (a_q_6, .inl (g 0, n_7, .inl q_8)), (a_q_12, .inl (g 0, n_13, .inl q_14)), (a_q_27, .inl (g 0, n_28, .inl q_29))] ++ (offS ad_64 tp_p_ hd_p_ tf_p_ cf_p_ g o_65)) := hD
        refine W.widen (k := 91524) (n := 550114) (by omega) (by omega) ?_
        refine lv_sipush (v := (-20004)) hx hb dL_isCombined_111 (by decide) ?_
        refine lv_icmp_ne (tgt := 121) hx hb dL_isCombined_114 (by decide) (fun c_66 => ?_) (fun c_66 => ?_)
        · have hw := hw.2 c_66
          refine lv_iconst (v := 0) hx hb dL_isCombined_121 (by decide) ?_
          refine W.widen (k := 92136) (n := 554368) (by omega) (by omega) ?_
          subst hQM
          obtain ⟨hP, hD⟩ := seg_sub (segs := [[(a_r_, .inl (g 0, n_r_, .inl r__16))], [(a_q_6, .inl (g 0, n_7, .inl q_8))], [(a_q_12, .inl (g 0, n_13, .inl q_14))], [(a_q_27, .inl (g 0, n_28, .inl q_29))], offS ad_64 tp_p_ hd_p_ tf_p_ cf_p_ g o_65]) [[(a_r_, .inl (g 0, n_r_, .inl r__16))], offS ad_64 tp_p_ hd_p_ tf_p_ cf_p_ g o_65] [[(a_q_6, .inl (g 0, n_7, .inl q_8))], [(a_q_12, .inl (g 0, n_13, .inl q_14))], [(a_q_27, .inl (g 0, n_28, .inl q_29))]] 5 [0, 4, 1, 2, 3] rfl rfl (by decide) hP hD
          exact W.zret (v := 0) hx hb hr rfl (fun t ht hW => ⟨⟨_, (r__16, ad_64, o_65, ()), rfl, ⟨false, rfl, ⟨hw, had_64⟩⟩, ⟨P_at ht hP, hD⟩⟩, hS.F ht⟩) hS.2.2 dL_isCombined_122
        · have hw := hw.1 c_66
          refine lv_iconst (v := 1) hx hb dL_isCombined_117 (by decide) ?_
          refine lv_goto (tgt := 122) hx hb dL_isCombined_118 (by decide) ?_
          refine W.widen (k := 92136) (n := 554368) (by omega) (by omega) ?_
          subst hQM
          obtain ⟨hP, hD⟩ := seg_sub (segs := [[(a_r_, .inl (g 0, n_r_, .inl r__16))], [(a_q_6, .inl (g 0, n_7, .inl q_8))], [(a_q_12, .inl (g 0, n_13, .inl q_14))], [(a_q_27, .inl (g 0, n_28, .inl q_29))], offS ad_64 tp_p_ hd_p_ tf_p_ cf_p_ g o_65]) [[(a_r_, .inl (g 0, n_r_, .inl r__16))], offS ad_64 tp_p_ hd_p_ tf_p_ cf_p_ g o_65] [[(a_q_6, .inl (g 0, n_7, .inl q_8))], [(a_q_12, .inl (g 0, n_13, .inl q_14))], [(a_q_27, .inl (g 0, n_28, .inl q_29))]] 5 [0, 4, 1, 2, 3] rfl rfl (by decide) hP hD
          exact W.zret (v := 1) hx hb hr rfl (fun t ht hW => ⟨⟨_, (r__16, ad_64, o_65, ()), rfl, ⟨true, rfl, ⟨hw, had_64⟩⟩, ⟨P_at ht hP, hD⟩⟩, hS.F ht⟩) hS.2.2 dL_isCombined_122
    · have hw := hw.1 (b2i_0 c_23)
      refine lv_aload_n hx hb dL_isCombined_59 rfl (lv_at hl 1 rfl) ?_
      refine lv_bipush (v := 18) hx hb dL_isCombined_60 (by decide) ?_
      refine lv_iload_n hx hb dL_isCombined_62 rfl (lv_at hl 2 rfl) ?_
      refine lv_iload_n hx hb dL_isCombined_63 rfl (lv_at hl 3 rfl) ?_
      refine lv_iload hx hb dL_isCombined_64 (lv_at hl 4 rfl) ?_
      obtain ⟨hPs, hDs⟩ := seg_call (segs := [[(a_r_, .inl (g 0, n_r_, .inl r__16))], [(a_q_6, .inl (g 0, n_7, .inl q_8))], [(a_q_12, .inl (g 0, n_13, .inl q_14))], offS ad_22 tp_p_ hd_p_ tf_p_ cf_p_ g o_21]) [[(a_r_, .inl (g 0, n_r_, .inl r__16))], [(a_q_6, .inl (g 0, n_7, .inl q_8))], [(a_q_12, .inl (g 0, n_13, .inl q_14))]] [offS ad_22 tp_p_ hd_p_ tf_p_ cf_p_ g o_21] 4 [0, 1, 2, 3] rfl rfl (by decide) hP hD
      have hPc : va_P (dC, dI) vwCl (offS ad_22 tp_p_ hd_p_ tf_p_ cf_p_ g o_21) H := P_r hPs
      have hDc : va_D A (offS ad_22 tp_p_ hd_p_ tf_p_ cf_p_ g o_21) := D_r hDs
      have hFc : ∀ q, va_A (offS ad_22 tp_p_ hd_p_ tf_p_ cf_p_ g o_21) H.size q → A q := A_all hDc hA hS.1
      refine va_calli (vx_runSW (As := [.ref t_p_, .int 18, .int a_, .int b_, .int r_1]) (rest := []) ⟨hx, hb, hml, hown, hts⟩ (c_L_asks_18 l hlf dC dI g (tp_p_ := tp_p_) (hd_p_ := hd_p_) (tf_p_ := tf_p_) (cf_p_ := cf_p_) (htf_p_ := htf_p_) (hcf_p_ := hcf_p_) (a_p_ := ad_22) (t_p_ := t_p_) (h_p_ := had_22) (o_p_ := o_21) (a_ := a_) (b_ := b_) (c_ := r_1) (hw := hw) (sz := H.size)) (vx_cwSW 5 hts (gqS aw_4_45 aw_4_46 aw_1_0 aw_4_47) rfl rfl rfl (by decide +kernel) ⟨Nat.le_of_ble_eq_true rfl, Nat.le_of_ble_eq_true rfl⟩) ⟨PG_blind, PG_call hK hG hS hPc hDc hFc⟩ rfl rfl hl.1 rfl (lv_room (Nat.le_of_ble_eq_true rfl)) dL_isCombined_66 ⟨by rw [hrc]; omega, by rw [hrs]; omega⟩) hS (fun q _ h => hFc q h) hFc (fun r_67 u_67 t_67 H_67 L_67 ht_67 hvm_67 hw_67 hB_67 hz_67 hk_67 hS => ?_)
      obtain ⟨ad_68, o_69, u_67⟩ := u_67
      obtain ⟨hw, had_68⟩ := hw_67
      rw [ht_67] at hB_67
      obtain ⟨hP1, hD1⟩ := hB_67
      obtain ⟨hP, hD⟩ := join_r hPs hDs hk_67 hFc hP1 hD1
      obtain ⟨hP, hD⟩ := seg_join [[(a_r_, .inl (g 0, n_r_, .inl r__16))], [(a_q_6, .inl (g 0, n_7, .inl q_8))], [(a_q_12, .inl (g 0, n_13, .inl q_14))]] [offS ad_68 tp_p_ hd_p_ tf_p_ cf_p_ g o_69] [[(a_r_, .inl (g 0, n_r_, .inl r__16))], [(a_q_6, .inl (g 0, n_7, .inl q_8))], [(a_q_12, .inl (g 0, n_13, .inl q_14))], offS ad_68 tp_p_ hd_p_ tf_p_ cf_p_ g o_69] 4 [0, 1, 2, 3] rfl rfl (by decide) hP hD
      have hP : va_P (dC, dI) vwCl ([(a_r_, .inl (g 0, n_r_, .inl r__16)), (a_q_6, .inl (g 0, n_7, .inl q_8)), (a_q_12, .inl (g 0, n_13, .inl q_14))] ++ (offS ad_68 tp_p_ hd_p_ tf_p_ cf_p_ g o_69)) H_67 := hP
      have hD : va_D A ([(a_r_, .inl (g 0, n_r_, .inl r__16)), (a_q_6, .inl (g 0, n_7, .inl q_8)), (a_q_12, .inl (g 0, n_13, .inl q_14))] ++ (offS ad_68 tp_p_ hd_p_ tf_p_ cf_p_ g o_69)) := hD
      refine W.widen (k := 417) (n := 2890) (by omega) (by omega) ?_
      refine lv_sipush (v := (-20004)) hx hb dL_isCombined_69 (by decide) ?_
      refine lv_icmp_ne (tgt := 79) hx hb dL_isCombined_72 (by decide) (fun c_70 => ?_) (fun c_70 => ?_)
      · have hw := hw.2 c_70
        refine lv_iconst (v := 0) hx hb dL_isCombined_79 (by decide) ?_
        refine W.widen (k := 92136) (n := 554368) (by omega) (by omega) ?_
        subst hQM
        obtain ⟨hP, hD⟩ := seg_sub (segs := [[(a_r_, .inl (g 0, n_r_, .inl r__16))], [(a_q_6, .inl (g 0, n_7, .inl q_8))], [(a_q_12, .inl (g 0, n_13, .inl q_14))], offS ad_68 tp_p_ hd_p_ tf_p_ cf_p_ g o_69]) [[(a_r_, .inl (g 0, n_r_, .inl r__16))], offS ad_68 tp_p_ hd_p_ tf_p_ cf_p_ g o_69] [[(a_q_6, .inl (g 0, n_7, .inl q_8))], [(a_q_12, .inl (g 0, n_13, .inl q_14))]] 4 [0, 3, 1, 2] rfl rfl (by decide) hP hD
        exact W.zret (v := 0) hx hb hr rfl (fun t ht hW => ⟨⟨_, (r__16, ad_68, o_69, ()), rfl, ⟨false, rfl, ⟨hw, had_68⟩⟩, ⟨P_at ht hP, hD⟩⟩, hS.F ht⟩) hS.2.2 dL_isCombined_80
      · have hw := hw.1 c_70
        refine lv_iconst (v := 1) hx hb dL_isCombined_75 (by decide) ?_
        refine lv_goto (tgt := 80) hx hb dL_isCombined_76 (by decide) ?_
        refine W.widen (k := 92136) (n := 554368) (by omega) (by omega) ?_
        subst hQM
        obtain ⟨hP, hD⟩ := seg_sub (segs := [[(a_r_, .inl (g 0, n_r_, .inl r__16))], [(a_q_6, .inl (g 0, n_7, .inl q_8))], [(a_q_12, .inl (g 0, n_13, .inl q_14))], offS ad_68 tp_p_ hd_p_ tf_p_ cf_p_ g o_69]) [[(a_r_, .inl (g 0, n_r_, .inl r__16))], offS ad_68 tp_p_ hd_p_ tf_p_ cf_p_ g o_69] [[(a_q_6, .inl (g 0, n_7, .inl q_8))], [(a_q_12, .inl (g 0, n_13, .inl q_14))]] 4 [0, 3, 1, 2] rfl rfl (by decide) hP hD
        exact W.zret (v := 1) hx hb hr rfl (fun t ht hW => ⟨⟨_, (r__16, ad_68, o_69, ()), rfl, ⟨true, rfl, ⟨hw, had_68⟩⟩, ⟨P_at ht hP, hD⟩⟩, hS.F ht⟩) hS.2.2 dL_isCombined_80
  have JN51 : ∀ (o_71 : OS) (ad_72 : Nat → Nat) (had_72 : ad_72 0 = t_p_) (H : Heap) (locs : List Loc), (wj_L_isCombined_51 a_ b_ Q r_1 n_7 q_8 n_13 q_14 r__16 r_15) o_71 → va_P (dC, dI) vwCl ([(a_r_, .inl (g 0, n_r_, .inl r__16)), (a_q_6, .inl (g 0, n_7, .inl q_8)), (a_q_12, .inl (g 0, n_13, .inl q_14))] ++ (offS ad_72 tp_p_ hd_p_ tf_p_ cf_p_ g o_71)) H → va_D A ([(a_r_, .inl (g 0, n_r_, .inl r__16)), (a_q_6, .inl (g 0, n_7, .inl q_8)), (a_q_12, .inl (g 0, n_13, .inl q_14))] ++ (offS ad_72 tp_p_ hd_p_ tf_p_ cf_p_ g o_71)) → va_S A s.heap H locs → ∀ (ls : Array Slot), lv_has ls 10 [(0, .ref t_p_), (2, .int a_), (3, .int b_), (4, .int r_1), (5, .ref a_q_6), (6, .ref a_q_12), (7, .int r_15)] → W p l e (headSpec wqL_isCombined ({ frames := 11, cells := 92136, slots := 554368, locals := 203 })).room s m ([.ref t_p_, .ref a_r_, .int a_, .int b_] : List Value).toArray below meth c H locs 412 2860 QM (F0 m 51 ls []) := by
    intro o_71 ad_72 had_72 H locs hw hP hD hS ls hl
    refine lv_iconst (v := 0) hx hb dL_isCombined_51 (by decide) ?_
    refine W.widen (k := 412) (n := 2860) (by omega) (by omega) ?_
    exact JN52 false o_71 ad_72 had_72 _ _ hw hP hD hS _ (lv_sub hl [0, 1, 2, 3, 4, 5, 6] rfl)
  refine lv_if_eq (tgt := 51) hx hb dL_isCombined_35 (by decide) (fun c_73 => ?_) (fun c_73 => ?_)
  · have hw := hw.1 (b2i_0 c_73)
    refine W.widen (k := 412) (n := 2860) (by omega) (by omega) ?_
    exact JN51 o_19 ad_18 had_18 _ _ hw hP hD hS _ (lv_sub hl [4, 6, 7, 3, 2, 1, 0] rfl)
  · have hw := hw.2 (b2i_1 c_73)
    refine lv_aload_n hx hb dL_isCombined_38 rfl (lv_at hl 4 rfl) ?_
    refine lv_iload_n hx hb dL_isCombined_39 rfl (lv_at hl 7 rfl) ?_
    refine lv_iconst (v := 0) hx hb dL_isCombined_40 (by decide) ?_
    obtain ⟨hPs, hDs⟩ := seg_call (segs := [[(a_r_, .inl (g 0, n_r_, .inl r__16))], [(a_q_6, .inl (g 0, n_7, .inl q_8))], [(a_q_12, .inl (g 0, n_13, .inl q_14))], offS ad_18 tp_p_ hd_p_ tf_p_ cf_p_ g o_19]) [[(a_r_, .inl (g 0, n_r_, .inl r__16))], [(a_q_6, .inl (g 0, n_7, .inl q_8))], [(a_q_12, .inl (g 0, n_13, .inl q_14))]] [offS ad_18 tp_p_ hd_p_ tf_p_ cf_p_ g o_19] 4 [0, 1, 2, 3] rfl rfl (by decide) hP hD
    have hPc : va_P (dC, dI) vwCl (offS ad_18 tp_p_ hd_p_ tf_p_ cf_p_ g o_19) H_17 := P_r hPs
    have hDc : va_D A (offS ad_18 tp_p_ hd_p_ tf_p_ cf_p_ g o_19) := D_r hDs
    have hFc : ∀ q, va_A (offS ad_18 tp_p_ hd_p_ tf_p_ cf_p_ g o_19) H_17.size q → A q := A_all hDc hA hS.1
    refine vx_calli (vx_runV (As := [.int b_, .int 0]) (rest := []) ⟨hx, hb, hml, hown, hts⟩ (p_isSorted l hlf dC dI g tp_p_ hd_p_ tf_p_ cf_p_ htf_p_ hcf_p_ ad_18 t_p_ had_18 o_19 b_ 0 (hw := hw) (sz := H_17.size)) (cwV 2 hts (gqV aw_5_228 aw_5_229 aw_5_230 aw_1_1 aw_5_231) rfl rfl rfl (by decide +kernel) ⟨Nat.le_of_ble_eq_true rfl, Nat.le_of_ble_eq_true rfl⟩) ⟨PG_blind, off_recv had_18 hK hPc, PG_call hK hG hS hPc hDc hFc⟩ rfl rfl hl.1 rfl (lv_room (Nat.le_of_ble_eq_true rfl)) dL_isCombined_41 ⟨by rw [hrc]; omega, by rw [hrs]; omega⟩) hS (fun q _ h => hFc q h) hFc (fun q _ h => hFc q h) (fun E ce q9 ux t H1 locs1 ht hvm hp9 hB9 hz hk hS9 hce hcv hcl => ?_) (fun r_74 u_74 t_74 H_74 L_74 ht_74 hvm_74 hw_74 hB_74 hz_74 hk_74 hS => ?_)
    · exact (hB9.1.1).elim
    obtain ⟨ad_75, o_76⟩ := u_74
    obtain ⟨b_74, rfl, ⟨hw, had_75⟩⟩ := hw_74
    rw [ht_74] at hB_74
    obtain ⟨hP1, hD1⟩ := hB_74
    obtain ⟨hP, hD⟩ := join_r hPs hDs hk_74 hFc hP1 hD1
    obtain ⟨hP, hD⟩ := seg_join [[(a_r_, .inl (g 0, n_r_, .inl r__16))], [(a_q_6, .inl (g 0, n_7, .inl q_8))], [(a_q_12, .inl (g 0, n_13, .inl q_14))]] [offS ad_75 tp_p_ hd_p_ tf_p_ cf_p_ g o_76] [[(a_r_, .inl (g 0, n_r_, .inl r__16))], [(a_q_6, .inl (g 0, n_7, .inl q_8))], [(a_q_12, .inl (g 0, n_13, .inl q_14))], offS ad_75 tp_p_ hd_p_ tf_p_ cf_p_ g o_76] 4 [0, 1, 2, 3] rfl rfl (by decide) hP hD
    have hP : va_P (dC, dI) vwCl ([(a_r_, .inl (g 0, n_r_, .inl r__16)), (a_q_6, .inl (g 0, n_7, .inl q_8)), (a_q_12, .inl (g 0, n_13, .inl q_14))] ++ (offS ad_75 tp_p_ hd_p_ tf_p_ cf_p_ g o_76)) H_74 := hP
    have hD : va_D A ([(a_r_, .inl (g 0, n_r_, .inl r__16)), (a_q_6, .inl (g 0, n_7, .inl q_8)), (a_q_12, .inl (g 0, n_13, .inl q_14))] ++ (offS ad_75 tp_p_ hd_p_ tf_p_ cf_p_ g o_76)) := hD
    refine W.widen (k := 412) (n := 2860) (by omega) (by omega) ?_
    refine lv_if_eq (tgt := 51) hx hb dL_isCombined_44 (by decide) (fun c_77 => ?_) (fun c_77 => ?_)
    · have hw := hw.1 (b2i_0 c_77)
      refine W.widen (k := 412) (n := 2860) (by omega) (by omega) ?_
      exact JN51 o_76 ad_75 had_75 _ _ hw hP hD hS _ (lv_sub hl [4, 6, 7, 3, 2, 1, 0] rfl)
    · have hw := hw.2 (b2i_1 c_77)
      refine lv_iconst (v := 1) hx hb dL_isCombined_47 (by decide) ?_
      refine lv_goto (tgt := 52) hx hb dL_isCombined_48 (by decide) ?_
      refine W.widen (k := 412) (n := 2860) (by omega) (by omega) ?_
      exact JN52 true o_76 ad_75 had_75 _ _ hw hP hD hS _ (lv_sub hl [4, 6, 7, 3, 2, 1, 0] rfl)
