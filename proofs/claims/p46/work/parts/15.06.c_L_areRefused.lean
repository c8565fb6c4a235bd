theorem dL_areRefused_0 : decode cL_areRefused 0 = .ok (.aload_n 1, 1) := by decide +kernel
theorem dL_areRefused_1 : decode cL_areRefused 1 = .ok (.iconst 2, 1) := by decide +kernel
theorem dL_areRefused_2 : decode cL_areRefused 2 = .ok (.invokestatic 103, 3) := by decide +kernel
theorem dL_areRefused_26 : decode cL_areRefused 26 = .ok (.istore_n 2, 1) := by decide +kernel
theorem dL_areRefused_27 : decode cL_areRefused 27 = .ok (.aload_n 0, 1) := by decide +kernel
theorem dL_areRefused_28 : decode cL_areRefused 28 = .ok (.invokevirtual 346, 3) := by decide +kernel
theorem dL_areRefused_31 : decode cL_areRefused 31 = .ok (.istore_n 3, 1) := by decide +kernel
theorem dL_areRefused_32 : decode cL_areRefused 32 = .ok (.aload_n 1, 1) := by decide +kernel
theorem dL_areRefused_33 : decode cL_areRefused 33 = .ok (.bipush 8, 2) := by decide +kernel
theorem dL_areRefused_35 : decode cL_areRefused 35 = .ok (.invokestatic 103, 3) := by decide +kernel
theorem dL_areRefused_38 : decode cL_areRefused 38 = .ok (.istore 4, 2) := by decide +kernel
theorem dL_areRefused_40 : decode cL_areRefused 40 = .ok (.aload_n 0, 1) := by decide +kernel
theorem dL_areRefused_41 : decode cL_areRefused 41 = .ok (.iconst 0, 1) := by decide +kernel
theorem dL_areRefused_42 : decode cL_areRefused 42 = .ok (.iload_n 2, 1) := by decide +kernel
theorem dL_areRefused_43 : decode cL_areRefused 43 = .ok (.sipush 1000, 3) := by decide +kernel
theorem dL_areRefused_46 : decode cL_areRefused 46 = .ok (.iconst 0, 1) := by decide +kernel
theorem dL_areRefused_47 : decode cL_areRefused 47 = .ok (.invokestatic 140, 3) := by decide +kernel
theorem dL_areRefused_50 : decode cL_areRefused 50 = .ok (.sipush (-20001), 3) := by decide +kernel
theorem dL_areRefused_53 : decode cL_areRefused 53 = .ok (.if_icmp .ne 138, 3) := by decide +kernel
theorem dL_areRefused_191 : decode cL_areRefused 191 = .ok (.iconst 0, 1) := by decide +kernel
theorem dL_areRefused_192 : decode cL_areRefused 192 = .ok (.ireturn, 1) := by decide +kernel
theorem dL_areRefused_56 : decode cL_areRefused 56 = .ok (.aload_n 0, 1) := by decide +kernel
theorem dL_areRefused_57 : decode cL_areRefused 57 = .ok (.iconst 0, 1) := by decide +kernel
theorem dL_areRefused_58 : decode cL_areRefused 58 = .ok (.iload 4, 2) := by decide +kernel
theorem dL_areRefused_60 : decode cL_areRefused 60 = .ok (.sipush 1000, 3) := by decide +kernel
theorem dL_areRefused_63 : decode cL_areRefused 63 = .ok (.iconst 0, 1) := by decide +kernel
theorem dL_areRefused_64 : decode cL_areRefused 64 = .ok (.invokestatic 140, 3) := by decide +kernel
theorem dL_areRefused_67 : decode cL_areRefused 67 = .ok (.sipush (-20003), 3) := by decide +kernel
theorem dL_areRefused_70 : decode cL_areRefused 70 = .ok (.if_icmp .ne 121, 3) := by decide +kernel
theorem dL_areRefused_73 : decode cL_areRefused 73 = .ok (.aload_n 0, 1) := by decide +kernel
theorem dL_areRefused_74 : decode cL_areRefused 74 = .ok (.iconst 0, 1) := by decide +kernel
theorem dL_areRefused_75 : decode cL_areRefused 75 = .ok (.iload 4, 2) := by decide +kernel
theorem dL_areRefused_77 : decode cL_areRefused 77 = .ok (.iconst 0, 1) := by decide +kernel
theorem dL_areRefused_78 : decode cL_areRefused 78 = .ok (.sipush 10000, 3) := by decide +kernel
theorem dL_areRefused_81 : decode cL_areRefused 81 = .ok (.invokestatic 140, 3) := by decide +kernel
theorem dL_areRefused_84 : decode cL_areRefused 84 = .ok (.sipush (-20003), 3) := by decide +kernel
theorem dL_areRefused_87 : decode cL_areRefused 87 = .ok (.if_icmp .ne 104, 3) := by decide +kernel
theorem dL_areRefused_90 : decode cL_areRefused 90 = .ok (.aload_n 0, 1) := by decide +kernel
theorem dL_areRefused_91 : decode cL_areRefused 91 = .ok (.iconst 1, 1) := by decide +kernel
theorem dL_areRefused_92 : decode cL_areRefused 92 = .ok (.iload 4, 2) := by decide +kernel
theorem dL_areRefused_94 : decode cL_areRefused 94 = .ok (.sipush 900, 3) := by decide +kernel
theorem dL_areRefused_97 : decode cL_areRefused 97 = .ok (.bipush 50, 2) := by decide +kernel
theorem dL_areRefused_99 : decode cL_areRefused 99 = .ok (.invokestatic 140, 3) := by decide +kernel
theorem dL_areRefused_102 : decode cL_areRefused 102 = .ok (.sipush (-20003), 3) := by decide +kernel
theorem dL_areRefused_105 : decode cL_areRefused 105 = .ok (.if_icmp .ne 86, 3) := by decide +kernel
theorem dL_areRefused_108 : decode cL_areRefused 108 = .ok (.aload_n 0, 1) := by decide +kernel
theorem dL_areRefused_109 : decode cL_areRefused 109 = .ok (.iconst 1, 1) := by decide +kernel
theorem dL_areRefused_110 : decode cL_areRefused 110 = .ok (.iload_n 2, 1) := by decide +kernel
theorem dL_areRefused_111 : decode cL_areRefused 111 = .ok (.sipush 900, 3) := by decide +kernel
theorem dL_areRefused_114 : decode cL_areRefused 114 = .ok (.bipush 50, 2) := by decide +kernel
theorem dL_areRefused_116 : decode cL_areRefused 116 = .ok (.invokestatic 140, 3) := by decide +kernel
theorem dL_areRefused_119 : decode cL_areRefused 119 = .ok (.sipush (-20001), 3) := by decide +kernel
theorem dL_areRefused_122 : decode cL_areRefused 122 = .ok (.if_icmp .ne 69, 3) := by decide +kernel
theorem dL_areRefused_125 : decode cL_areRefused 125 = .ok (.aload_n 0, 1) := by decide +kernel
theorem dL_areRefused_126 : decode cL_areRefused 126 = .ok (.iconst 2, 1) := by decide +kernel
theorem dL_areRefused_127 : decode cL_areRefused 127 = .ok (.iload 4, 2) := by decide +kernel
theorem dL_areRefused_129 : decode cL_areRefused 129 = .ok (.bipush 51, 2) := by decide +kernel
theorem dL_areRefused_131 : decode cL_areRefused 131 = .ok (.iconst 5, 1) := by decide +kernel
theorem dL_areRefused_132 : decode cL_areRefused 132 = .ok (.invokestatic 140, 3) := by decide +kernel
theorem dL_areRefused_135 : decode cL_areRefused 135 = .ok (.sipush (-20003), 3) := by decide +kernel
theorem dL_areRefused_138 : decode cL_areRefused 138 = .ok (.if_icmp .ne 53, 3) := by decide +kernel
theorem dL_areRefused_141 : decode cL_areRefused 141 = .ok (.aload_n 0, 1) := by decide +kernel
theorem dL_areRefused_142 : decode cL_areRefused 142 = .ok (.iconst 2, 1) := by decide +kernel
theorem dL_areRefused_143 : decode cL_areRefused 143 = .ok (.iload 4, 2) := by decide +kernel
theorem dL_areRefused_145 : decode cL_areRefused 145 = .ok (.iconst 5, 1) := by decide +kernel
theorem dL_areRefused_146 : decode cL_areRefused 146 = .ok (.iconst 0, 1) := by decide +kernel
theorem dL_areRefused_147 : decode cL_areRefused 147 = .ok (.invokestatic 140, 3) := by decide +kernel
theorem dL_areRefused_150 : decode cL_areRefused 150 = .ok (.sipush (-20003), 3) := by decide +kernel
theorem dL_areRefused_153 : decode cL_areRefused 153 = .ok (.if_icmp .ne 38, 3) := by decide +kernel
theorem dL_areRefused_156 : decode cL_areRefused 156 = .ok (.aload_n 0, 1) := by decide +kernel
theorem dL_areRefused_157 : decode cL_areRefused 157 = .ok (.iconst 3, 1) := by decide +kernel
theorem dL_areRefused_158 : decode cL_areRefused 158 = .ok (.iload 4, 2) := by decide +kernel
theorem dL_areRefused_160 : decode cL_areRefused 160 = .ok (.aload_n 0, 1) := by decide +kernel
theorem dL_areRefused_161 : decode cL_areRefused 161 = .ok (.iload 4, 2) := by decide +kernel
theorem dL_areRefused_163 : decode cL_areRefused 163 = .ok (.invokevirtual 90, 3) := by decide +kernel
theorem dL_areRefused_166 : decode cL_areRefused 166 = .ok (.iconst 0, 1) := by decide +kernel
theorem dL_areRefused_167 : decode cL_areRefused 167 = .ok (.invokestatic 140, 3) := by decide +kernel
theorem dL_areRefused_170 : decode cL_areRefused 170 = .ok (.sipush (-20001), 3) := by decide +kernel
theorem dL_areRefused_173 : decode cL_areRefused 173 = .ok (.if_icmp .ne 18, 3) := by decide +kernel
theorem dL_areRefused_176 : decode cL_areRefused 176 = .ok (.aload_n 0, 1) := by decide +kernel
theorem dL_areRefused_177 : decode cL_areRefused 177 = .ok (.iconst 3, 1) := by decide +kernel
theorem dL_areRefused_178 : decode cL_areRefused 178 = .ok (.iload 4, 2) := by decide +kernel
theorem dL_areRefused_180 : decode cL_areRefused 180 = .ok (.iconst (-1), 1) := by decide +kernel
theorem dL_areRefused_181 : decode cL_areRefused 181 = .ok (.iconst 0, 1) := by decide +kernel
theorem dL_areRefused_182 : decode cL_areRefused 182 = .ok (.invokestatic 140, 3) := by decide +kernel
theorem dL_areRefused_185 : decode cL_areRefused 185 = .ok (.sipush (-20001), 3) := by decide +kernel
theorem dL_areRefused_188 : decode cL_areRefused 188 = .ok (.if_icmp .eq 5, 3) := by decide +kernel
theorem dL_areRefused_193 : decode cL_areRefused 193 = .ok (.aload_n 0, 1) := by decide +kernel
theorem dL_areRefused_194 : decode cL_areRefused 194 = .ok (.iconst 4, 1) := by decide +kernel
theorem dL_areRefused_195 : decode cL_areRefused 195 = .ok (.iconst 2, 1) := by decide +kernel
theorem dL_areRefused_196 : decode cL_areRefused 196 = .ok (.iconst 0, 1) := by decide +kernel
theorem dL_areRefused_197 : decode cL_areRefused 197 = .ok (.iconst 1, 1) := by decide +kernel
theorem dL_areRefused_198 : decode cL_areRefused 198 = .ok (.invokestatic 140, 3) := by decide +kernel
theorem dL_areRefused_201 : decode cL_areRefused 201 = .ok (.sipush (-20003), 3) := by decide +kernel
theorem dL_areRefused_204 : decode cL_areRefused 204 = .ok (.if_icmp .ne 181, 3) := by decide +kernel
theorem dL_areRefused_385 : decode cL_areRefused 385 = .ok (.iconst 0, 1) := by decide +kernel
theorem dL_areRefused_386 : decode cL_areRefused 386 = .ok (.ireturn, 1) := by decide +kernel
theorem dL_areRefused_207 : decode cL_areRefused 207 = .ok (.aload_n 0, 1) := by decide +kernel
theorem dL_areRefused_208 : decode cL_areRefused 208 = .ok (.iconst 4, 1) := by decide +kernel
theorem dL_areRefused_209 : decode cL_areRefused 209 = .ok (.iconst 0, 1) := by decide +kernel
theorem dL_areRefused_210 : decode cL_areRefused 210 = .ok (.iconst 3, 1) := by decide +kernel
theorem dL_areRefused_211 : decode cL_areRefused 211 = .ok (.iconst 1, 1) := by decide +kernel
theorem dL_areRefused_212 : decode cL_areRefused 212 = .ok (.invokestatic 140, 3) := by decide +kernel
theorem dL_areRefused_215 : decode cL_areRefused 215 = .ok (.sipush (-20003), 3) := by decide +kernel
theorem dL_areRefused_218 : decode cL_areRefused 218 = .ok (.if_icmp .ne 167, 3) := by decide +kernel
theorem dL_areRefused_221 : decode cL_areRefused 221 = .ok (.aload_n 0, 1) := by decide +kernel
theorem dL_areRefused_222 : decode cL_areRefused 222 = .ok (.iconst 4, 1) := by decide +kernel
theorem dL_areRefused_223 : decode cL_areRefused 223 = .ok (.iconst 0, 1) := by decide +kernel
theorem dL_areRefused_224 : decode cL_areRefused 224 = .ok (.iconst 0, 1) := by decide +kernel
theorem dL_areRefused_225 : decode cL_areRefused 225 = .ok (.bipush 51, 2) := by decide +kernel
theorem dL_areRefused_227 : decode cL_areRefused 227 = .ok (.invokestatic 140, 3) := by decide +kernel
theorem dL_areRefused_230 : decode cL_areRefused 230 = .ok (.sipush (-20003), 3) := by decide +kernel
theorem dL_areRefused_233 : decode cL_areRefused 233 = .ok (.if_icmp .ne 152, 3) := by decide +kernel
theorem dL_areRefused_236 : decode cL_areRefused 236 = .ok (.aload_n 0, 1) := by decide +kernel
theorem dL_areRefused_237 : decode cL_areRefused 237 = .ok (.iconst 5, 1) := by decide +kernel
theorem dL_areRefused_238 : decode cL_areRefused 238 = .ok (.iconst 3, 1) := by decide +kernel
theorem dL_areRefused_239 : decode cL_areRefused 239 = .ok (.iconst 2, 1) := by decide +kernel
theorem dL_areRefused_240 : decode cL_areRefused 240 = .ok (.iconst 0, 1) := by decide +kernel
theorem dL_areRefused_241 : decode cL_areRefused 241 = .ok (.invokestatic 140, 3) := by decide +kernel
theorem dL_areRefused_244 : decode cL_areRefused 244 = .ok (.sipush (-20003), 3) := by decide +kernel
theorem dL_areRefused_247 : decode cL_areRefused 247 = .ok (.if_icmp .ne 138, 3) := by decide +kernel
theorem dL_areRefused_250 : decode cL_areRefused 250 = .ok (.aload_n 0, 1) := by decide +kernel
theorem dL_areRefused_251 : decode cL_areRefused 251 = .ok (.iconst 5, 1) := by decide +kernel
theorem dL_areRefused_252 : decode cL_areRefused 252 = .ok (.iconst 0, 1) := by decide +kernel
theorem dL_areRefused_253 : decode cL_areRefused 253 = .ok (.bipush 7, 2) := by decide +kernel
theorem dL_areRefused_255 : decode cL_areRefused 255 = .ok (.iconst 0, 1) := by decide +kernel
theorem dL_areRefused_256 : decode cL_areRefused 256 = .ok (.invokestatic 140, 3) := by decide +kernel
theorem dL_areRefused_259 : decode cL_areRefused 259 = .ok (.sipush (-20003), 3) := by decide +kernel
theorem dL_areRefused_262 : decode cL_areRefused 262 = .ok (.if_icmp .ne 123, 3) := by decide +kernel
theorem dL_areRefused_265 : decode cL_areRefused 265 = .ok (.aload_n 0, 1) := by decide +kernel
theorem dL_areRefused_266 : decode cL_areRefused 266 = .ok (.bipush 7, 2) := by decide +kernel
theorem dL_areRefused_268 : decode cL_areRefused 268 = .ok (.iload 4, 2) := by decide +kernel
theorem dL_areRefused_270 : decode cL_areRefused 270 = .ok (.iconst 4, 1) := by decide +kernel
theorem dL_areRefused_271 : decode cL_areRefused 271 = .ok (.iconst 0, 1) := by decide +kernel
theorem dL_areRefused_272 : decode cL_areRefused 272 = .ok (.invokestatic 140, 3) := by decide +kernel
theorem dL_areRefused_275 : decode cL_areRefused 275 = .ok (.sipush (-20003), 3) := by decide +kernel
theorem dL_areRefused_278 : decode cL_areRefused 278 = .ok (.if_icmp .ne 107, 3) := by decide +kernel
theorem dL_areRefused_281 : decode cL_areRefused 281 = .ok (.aload_n 0, 1) := by decide +kernel
theorem dL_areRefused_282 : decode cL_areRefused 282 = .ok (.bipush 7, 2) := by decide +kernel
theorem dL_areRefused_284 : decode cL_areRefused 284 = .ok (.iload_n 2, 1) := by decide +kernel
theorem dL_areRefused_285 : decode cL_areRefused 285 = .ok (.iconst 4, 1) := by decide +kernel
theorem dL_areRefused_286 : decode cL_areRefused 286 = .ok (.iconst 0, 1) := by decide +kernel
theorem dL_areRefused_287 : decode cL_areRefused 287 = .ok (.invokestatic 140, 3) := by decide +kernel
theorem dL_areRefused_290 : decode cL_areRefused 290 = .ok (.sipush (-20001), 3) := by decide +kernel
theorem dL_areRefused_293 : decode cL_areRefused 293 = .ok (.if_icmp .ne 92, 3) := by decide +kernel
theorem dL_areRefused_296 : decode cL_areRefused 296 = .ok (.aload_n 0, 1) := by decide +kernel
theorem dL_areRefused_297 : decode cL_areRefused 297 = .ok (.bipush 8, 2) := by decide +kernel
theorem dL_areRefused_299 : decode cL_areRefused 299 = .ok (.iload_n 2, 1) := by decide +kernel
theorem dL_areRefused_300 : decode cL_areRefused 300 = .ok (.iload 4, 2) := by decide +kernel
theorem dL_areRefused_302 : decode cL_areRefused 302 = .ok (.iconst 0, 1) := by decide +kernel
theorem dL_areRefused_303 : decode cL_areRefused 303 = .ok (.invokestatic 140, 3) := by decide +kernel
theorem dL_areRefused_306 : decode cL_areRefused 306 = .ok (.sipush (-20001), 3) := by decide +kernel
theorem dL_areRefused_309 : decode cL_areRefused 309 = .ok (.if_icmp .ne 76, 3) := by decide +kernel
theorem dL_areRefused_312 : decode cL_areRefused 312 = .ok (.aload_n 0, 1) := by decide +kernel
theorem dL_areRefused_313 : decode cL_areRefused 313 = .ok (.bipush 9, 2) := by decide +kernel
theorem dL_areRefused_315 : decode cL_areRefused 315 = .ok (.iconst 0, 1) := by decide +kernel
theorem dL_areRefused_316 : decode cL_areRefused 316 = .ok (.iconst 0, 1) := by decide +kernel
theorem dL_areRefused_317 : decode cL_areRefused 317 = .ok (.iconst 0, 1) := by decide +kernel
theorem dL_areRefused_318 : decode cL_areRefused 318 = .ok (.invokestatic 140, 3) := by decide +kernel
theorem dL_areRefused_321 : decode cL_areRefused 321 = .ok (.sipush (-20003), 3) := by decide +kernel
theorem dL_areRefused_324 : decode cL_areRefused 324 = .ok (.if_icmp .ne 61, 3) := by decide +kernel
theorem dL_areRefused_327 : decode cL_areRefused 327 = .ok (.aload_n 0, 1) := by decide +kernel
theorem dL_areRefused_328 : decode cL_areRefused 328 = .ok (.bipush 11, 2) := by decide +kernel
theorem dL_areRefused_330 : decode cL_areRefused 330 = .ok (.bipush 8, 2) := by decide +kernel
theorem dL_areRefused_332 : decode cL_areRefused 332 = .ok (.iconst 0, 1) := by decide +kernel
theorem dL_areRefused_333 : decode cL_areRefused 333 = .ok (.iconst 0, 1) := by decide +kernel
theorem dL_areRefused_334 : decode cL_areRefused 334 = .ok (.invokestatic 140, 3) := by decide +kernel
theorem dL_areRefused_337 : decode cL_areRefused 337 = .ok (.sipush (-20003), 3) := by decide +kernel
theorem dL_areRefused_340 : decode cL_areRefused 340 = .ok (.if_icmp .ne 45, 3) := by decide +kernel
theorem dL_areRefused_343 : decode cL_areRefused 343 = .ok (.aload_n 0, 1) := by decide +kernel
theorem dL_areRefused_344 : decode cL_areRefused 344 = .ok (.bipush 12, 2) := by decide +kernel
theorem dL_areRefused_346 : decode cL_areRefused 346 = .ok (.iload 4, 2) := by decide +kernel
theorem dL_areRefused_348 : decode cL_areRefused 348 = .ok (.iload 4, 2) := by decide +kernel
theorem dL_areRefused_350 : decode cL_areRefused 350 = .ok (.iload_n 2, 1) := by decide +kernel
theorem dL_areRefused_351 : decode cL_areRefused 351 = .ok (.invokestatic 140, 3) := by decide +kernel
theorem dL_areRefused_354 : decode cL_areRefused 354 = .ok (.sipush (-20001), 3) := by decide +kernel
theorem dL_areRefused_357 : decode cL_areRefused 357 = .ok (.if_icmp .ne 28, 3) := by decide +kernel
theorem dL_areRefused_360 : decode cL_areRefused 360 = .ok (.aload_n 0, 1) := by decide +kernel
theorem dL_areRefused_361 : decode cL_areRefused 361 = .ok (.bipush 18, 2) := by decide +kernel
theorem dL_areRefused_363 : decode cL_areRefused 363 = .ok (.iload 4, 2) := by decide +kernel
theorem dL_areRefused_365 : decode cL_areRefused 365 = .ok (.iload 4, 2) := by decide +kernel
theorem dL_areRefused_367 : decode cL_areRefused 367 = .ok (.iconst 3, 1) := by decide +kernel
theorem dL_areRefused_368 : decode cL_areRefused 368 = .ok (.invokestatic 140, 3) := by decide +kernel
theorem dL_areRefused_371 : decode cL_areRefused 371 = .ok (.sipush (-20003), 3) := by decide +kernel
theorem dL_areRefused_374 : decode cL_areRefused 374 = .ok (.if_icmp .ne 11, 3) := by decide +kernel
theorem dL_areRefused_377 : decode cL_areRefused 377 = .ok (.aload_n 0, 1) := by decide +kernel
theorem dL_areRefused_378 : decode cL_areRefused 378 = .ok (.invokevirtual 346, 3) := by decide +kernel
theorem dL_areRefused_381 : decode cL_areRefused 381 = .ok (.iload_n 3, 1) := by decide +kernel
theorem dL_areRefused_382 : decode cL_areRefused 382 = .ok (.if_icmp .eq 5, 3) := by decide +kernel
theorem dL_areRefused_387 : decode cL_areRefused 387 = .ok (.iconst 0, 1) := by decide +kernel
theorem dL_areRefused_388 : decode cL_areRefused 388 = .ok (.istore 5, 2) := by decide +kernel
theorem dL_areRefused_435 : decode cL_areRefused 435 = .ok (.aload_n 0, 1) := by decide +kernel
theorem dL_areRefused_436 : decode cL_areRefused 436 = .ok (.iconst 0, 1) := by decide +kernel
theorem dL_areRefused_437 : decode cL_areRefused 437 = .ok (.bipush 6, 2) := by decide +kernel
theorem dL_areRefused_439 : decode cL_areRefused 439 = .ok (.iconst 0, 1) := by decide +kernel
theorem dL_areRefused_440 : decode cL_areRefused 440 = .ok (.iconst 0, 1) := by decide +kernel
theorem dL_areRefused_441 : decode cL_areRefused 441 = .ok (.invokestatic 140, 3) := by decide +kernel
theorem dL_areRefused_444 : decode cL_areRefused 444 = .ok (.sipush (-20004), 3) := by decide +kernel
theorem dL_areRefused_447 : decode cL_areRefused 447 = .ok (.if_icmp .ne 52, 3) := by decide +kernel
theorem dL_areRefused_499 : decode cL_areRefused 499 = .ok (.iconst 0, 1) := by decide +kernel
theorem dL_areRefused_500 : decode cL_areRefused 500 = .ok (.ireturn, 1) := by decide +kernel
theorem dL_areRefused_450 : decode cL_areRefused 450 = .ok (.aload_n 0, 1) := by decide +kernel
theorem dL_areRefused_451 : decode cL_areRefused 451 = .ok (.iconst 0, 1) := by decide +kernel
theorem dL_areRefused_452 : decode cL_areRefused 452 = .ok (.bipush 6, 2) := by decide +kernel
theorem dL_areRefused_454 : decode cL_areRefused 454 = .ok (.sipush 1000, 3) := by decide +kernel
theorem dL_areRefused_457 : decode cL_areRefused 457 = .ok (.iconst 0, 1) := by decide +kernel
theorem dL_areRefused_458 : decode cL_areRefused 458 = .ok (.invokestatic 140, 3) := by decide +kernel
theorem dL_areRefused_461 : decode cL_areRefused 461 = .ok (.sipush (-20003), 3) := by decide +kernel
theorem dL_areRefused_464 : decode cL_areRefused 464 = .ok (.if_icmp .ne 35, 3) := by decide +kernel
theorem dL_areRefused_467 : decode cL_areRefused 467 = .ok (.aload_n 0, 1) := by decide +kernel
theorem dL_areRefused_468 : decode cL_areRefused 468 = .ok (.invokevirtual 346, 3) := by decide +kernel
theorem dL_areRefused_471 : decode cL_areRefused 471 = .ok (.sipush 200, 3) := by decide +kernel
theorem dL_areRefused_474 : decode cL_areRefused 474 = .ok (.if_icmp .ne 25, 3) := by decide +kernel
theorem dL_areRefused_477 : decode cL_areRefused 477 = .ok (.aload_n 0, 1) := by decide +kernel
theorem dL_areRefused_478 : decode cL_areRefused 478 = .ok (.bipush 6, 2) := by decide +kernel
theorem dL_areRefused_480 : decode cL_areRefused 480 = .ok (.iconst 1, 1) := by decide +kernel
theorem dL_areRefused_481 : decode cL_areRefused 481 = .ok (.iconst 1, 1) := by decide +kernel
theorem dL_areRefused_482 : decode cL_areRefused 482 = .ok (.iconst 0, 1) := by decide +kernel
theorem dL_areRefused_483 : decode cL_areRefused 483 = .ok (.invokevirtual 23, 3) := by decide +kernel
theorem dL_areRefused_486 : decode cL_areRefused 486 = .ok (.aload_n 0, 1) := by decide +kernel
theorem dL_areRefused_487 : decode cL_areRefused 487 = .ok (.bipush 6, 2) := by decide +kernel
theorem dL_areRefused_489 : decode cL_areRefused 489 = .ok (.invokevirtual 90, 3) := by decide +kernel
theorem dL_areRefused_492 : decode cL_areRefused 492 = .ok (.if_icmp .ne 7, 3) := by decide +kernel
theorem dL_areRefused_495 : decode cL_areRefused 495 = .ok (.iconst 1, 1) := by decide +kernel
theorem dL_areRefused_496 : decode cL_areRefused 496 = .ok (.goto 4, 3) := by decide +kernel
theorem dL_areRefused_390 : decode cL_areRefused 390 = .ok (.aload_n 0, 1) := by decide +kernel
theorem dL_areRefused_391 : decode cL_areRefused 391 = .ok (.invokevirtual 346, 3) := by decide +kernel
theorem dL_areRefused_394 : decode cL_areRefused 394 = .ok (.sipush 200, 3) := by decide +kernel
theorem dL_areRefused_397 : decode cL_areRefused 397 = .ok (.if_icmp .ge 38, 3) := by decide +kernel
theorem dL_areRefused_400 : decode cL_areRefused 400 = .ok (.aload_n 0, 1) := by decide +kernel
theorem dL_areRefused_401 : decode cL_areRefused 401 = .ok (.bipush 6, 2) := by decide +kernel
theorem dL_areRefused_403 : decode cL_areRefused 403 = .ok (.invokevirtual 100, 3) := by decide +kernel
theorem dL_areRefused_406 : decode cL_areRefused 406 = .ok (.istore 5, 2) := by decide +kernel
theorem dL_areRefused_408 : decode cL_areRefused 408 = .ok (.aload_n 0, 1) := by decide +kernel
theorem dL_areRefused_409 : decode cL_areRefused 409 = .ok (.bipush 6, 2) := by decide +kernel
theorem dL_areRefused_411 : decode cL_areRefused 411 = .ok (.bipush 50, 2) := by decide +kernel
theorem dL_areRefused_413 : decode cL_areRefused 413 = .ok (.sipush 200, 3) := by decide +kernel
theorem dL_areRefused_416 : decode cL_areRefused 416 = .ok (.aload_n 0, 1) := by decide +kernel
theorem dL_areRefused_417 : decode cL_areRefused 417 = .ok (.invokevirtual 346, 3) := by decide +kernel
theorem dL_areRefused_420 : decode cL_areRefused 420 = .ok (.isub, 1) := by decide +kernel
theorem dL_areRefused_421 : decode cL_areRefused 421 = .ok (.invokestatic 127, 3) := by decide +kernel
theorem dL_areRefused_424 : decode cL_areRefused 424 = .ok (.bipush 10, 2) := by decide +kernel
theorem dL_areRefused_426 : decode cL_areRefused 426 = .ok (.iconst 3, 1) := by decide +kernel
theorem dL_areRefused_427 : decode cL_areRefused 427 = .ok (.invokevirtual 27, 3) := by decide +kernel
theorem dL_areRefused_430 : decode cL_areRefused 430 = .ok (.istore 5, 2) := by decide +kernel
theorem dL_areRefused_432 : decode cL_areRefused 432 = .ok (.goto (-42), 3) := by decide +kernel
theorem dL_areRefused_5 : decode cL_areRefused 5 = .ok (.ifCond .ne 14, 3) := by decide +kernel
theorem dL_areRefused_19 : decode cL_areRefused 19 = .ok (.iconst (-1), 1) := by decide +kernel
theorem dL_areRefused_20 : decode cL_areRefused 20 = .ok (.aload_n 1, 1) := by decide +kernel
theorem dL_areRefused_21 : decode cL_areRefused 21 = .ok (.iconst 3, 1) := by decide +kernel
theorem dL_areRefused_22 : decode cL_areRefused 22 = .ok (.invokestatic 103, 3) := by decide +kernel
theorem dL_areRefused_25 : decode cL_areRefused 25 = .ok (.isub, 1) := by decide +kernel
theorem dL_areRefused_8 : decode cL_areRefused 8 = .ok (.bipush 8, 2) := by decide +kernel
theorem dL_areRefused_10 : decode cL_areRefused 10 = .ok (.aload_n 1, 1) := by decide +kernel
theorem dL_areRefused_11 : decode cL_areRefused 11 = .ok (.iconst 3, 1) := by decide +kernel
theorem dL_areRefused_12 : decode cL_areRefused 12 = .ok (.invokestatic 103, 3) := by decide +kernel
theorem dL_areRefused_15 : decode cL_areRefused 15 = .ok (.iadd, 1) := by decide +kernel
theorem dL_areRefused_16 : decode cL_areRefused 16 = .ok (.goto 10, 3) := by decide +kernel

set_option maxHeartbeats 8000000 in
set_option maxRecDepth 100000 in
theorem c_L_areRefused (l : Launch) (hlf : l.stackTraces = false) (dC : Nat → ClassId) (dI : Nat → Nat → Nat) (g : Nat → ClassId) (tp_p_ hd_p_ : Nat → Nat) (tf_p_ cf_p_ : Nat → Option Nat) (htf_p_ : ∀ j, j < 8 → tf_p_ j = some (tp_p_ j)) (hcf_p_ : ∀ j, j < 8 → cf_p_ j = some (tp_p_ (8 + j))) (a_p_ : Nat → Nat) (t_p_ : Nat) (h_p_ : a_p_ 0 = t_p_) (o_p_ : OS) (a_r_ n_r_ : Nat) (r_ : Nat → Int32) (Q : Bool → (Nat → Int32) → OS → Prop) (hw : wp_L_areRefused o_p_ n_r_ r_ Q) (sz : Nat) : Met l yL_areRefused wqL_areRefused ({ frames := 9, cells := 591, slots := 3546, locals := 167 }) (va_Pc [.ref t_p_, .ref a_r_] (PG (dC, dI) g ([(a_r_, .inl (g 0, n_r_, .inl r_))] ++ (offS a_p_ tp_p_ hd_p_ tf_p_ cf_p_ g o_p_)) sz)) (va_Qi (fun (r : Int32) (u : (Nat → Int32) × (Nat → Nat) × OS × Unit) => ∃ b : Bool, r = b2i b ∧ (Q b u.1 u.2.2.1 ∧ u.2.1 0 = t_p_)) (fun (u : (Nat → Int32) × (Nat → Nat) × OS × Unit) t9 => va_P (dC, dI) vwCl ([(a_r_, .inl (g 0, n_r_, .inl u.1))] ++ (offS u.2.1 tp_p_ hd_p_ tf_p_ cf_p_ g u.2.2.1)) t9.heap ∧ va_D (va_A ([(a_r_, .inl (g 0, n_r_, .inl r_))] ++ (offS a_p_ tp_p_ hd_p_ tf_p_ cf_p_ g o_p_)) sz) ([(a_r_, .inl (g 0, n_r_, .inl u.1))] ++ (offS u.2.1 tp_p_ hd_p_ tf_p_ cf_p_ g u.2.2.1))) (va_A ([(a_r_, .inl (g 0, n_r_, .inl r_))] ++ (offS a_p_ tp_p_ hd_p_ tf_p_ cf_p_ g o_p_)) sz)) 591 3546 (va_A ([(a_r_, .inl (g 0, n_r_, .inl r_))] ++ (offS a_p_ tp_p_ hd_p_ tf_p_ cf_p_ g o_p_)) sz) := by
  refine Met.ofW (cc := cL_areRefused) (maxL := 6) (ret := (some .boolean)) (by decide) rfl ?_
  intro p e s m args below meth c s₁ B hml hv
  obtain ⟨rfl, hsz, hP, hK, hD0, hG⟩ := hv
  have hx := B.exec
  have hb := B.bytes
  have hr := B.returns
  have hts := atoms_spec (ws := wqL_areRefused) B.pre
  have hown : s.vm.findClass RL = some m.cls := findClass_of_methodNamed B.named
  have hlocks := B.notSynchronized
  subst hsz
  have hD := hD0.self (sz := s.heap.size)
  generalize hAe : va_A ([(a_r_, .inl (g 0, n_r_, .inl r_))] ++ (offS a_p_ tp_p_ hd_p_ tf_p_ cf_p_ g o_p_)) s.heap.size = A at hD hG ⊢
  have hA : ∀ q : Nat, s.heap.size ≤ q → A q := fun q h => by rw [← hAe]; exact Or.inr h
  have hS : va_S A s.heap s.heap [] := va_S.rf
  have hrc : (headSpec wqL_areRefused ({ frames := 9, cells := 591, slots := 3546, locals := 167 })).room.cells = 591 := rfl
  have hrs : (headSpec wqL_areRefused ({ frames := 9, cells := 591, slots := 3546, locals := 167 })).room.slots = 3546 := rfl
  have hl := lv_entry ([.ref t_p_, .ref a_r_]) (n := 6) (Nat.le_of_ble_eq_true rfl)
  rw [lg_entry_eq]
  generalize (lg_sl ([.ref t_p_, .ref a_r_]) ++ List.replicate (6 - (lg_sl ([.ref t_p_, .ref a_r_])).length) Slot.unset).toArray = ls at hl ⊢
  have hl : lv_has ls 6 [(0, .ref t_p_), (1, .ref a_r_)] := hl
  unfold wp_L_areRefused at hw
  have hmmin127_0 := hts (Cond.methodLink RL 127 Lib.Math.min.name) (aw_l aw_4_38)
  have hmmin127_1 := hts (Cond.static Lib.Math.min.name) (aw_l aw_3_141)
  have hmmin127_2 := hts (Cond.initialized "java/lang/Math") (aw_l aw_1_19)
  have hmmin127_3 := hts (Cond.code Lib.Math.min.name Lib.Math.min.code 2 (some .int)) (aw_l aw_3_142)
  refine lv_aload_n hx hb dL_areRefused_0 rfl (lv_at hl 1 rfl) ?_
  refine lv_iconst (v := 2) hx hb dL_areRefused_1 (by decide) ?_
  obtain ⟨hPs, hDs⟩ := seg_call (segs := [[(a_r_, .inl (g 0, n_r_, .inl r_))], offS a_p_ tp_p_ hd_p_ tf_p_ cf_p_ g o_p_]) [offS a_p_ tp_p_ hd_p_ tf_p_ cf_p_ g o_p_] [[(a_r_, .inl (g 0, n_r_, .inl r_))]] 2 [1, 0] rfl rfl (by decide) hP hD
  have hPc : va_P (dC, dI) vwCl [(a_r_, .inl (g 0, n_r_, .inl r_))] s.heap := P_r hPs
  have hDc : va_D A [(a_r_, .inl (g 0, n_r_, .inl r_))] := D_r hDs
  have hFc : ∀ q, va_A [(a_r_, .inl (g 0, n_r_, .inl r_))] s.heap.size q → A q := A_all hDc hA hS.1
  refine va_calli (va_runS (As := [.ref a_r_, .int 2]) (rest := []) ⟨hx, hb, hml, hown, hts⟩ (c_L_draw l hlf dC dI g (a_r_ := a_r_) (n_r_ := n_r_) (r_ := r_) (many := 2) (hw := hw) (sz := s.heap.size)) (va_cwS 2 hts (gqS aw_2_215 aw_2_216 aw_1_0 aw_2_217) rfl rfl rfl (by decide +kernel) ⟨Nat.le_of_ble_eq_true rfl, Nat.le_of_ble_eq_true rfl⟩) ⟨PG_blind, PG_call hK hG hS hPc hDc hFc⟩ rfl rfl hl.1 rfl (lv_room (Nat.le_of_ble_eq_true rfl)) dL_areRefused_2 ⟨by rw [hrc]; omega, by rw [hrs]; omega⟩) hS (fun q _ h => hFc q h) hFc (fun r_1 u_1 t_1 H_1 L_1 ht_1 hvm_1 hw_1 hB_1 hz_1 hk_1 hS => ?_)
  obtain ⟨r__2, u_1⟩ := u_1
  have hw := hw_1
  rw [ht_1] at hB_1
  obtain ⟨hP1, hD1⟩ := hB_1
  obtain ⟨hP, hD⟩ := join_r hPs hDs hk_1 hFc hP1 hD1
  obtain ⟨hP, hD⟩ := seg_join [offS a_p_ tp_p_ hd_p_ tf_p_ cf_p_ g o_p_] [[(a_r_, .inl (g 0, n_r_, .inl r__2))]] [[(a_r_, .inl (g 0, n_r_, .inl r__2))], offS a_p_ tp_p_ hd_p_ tf_p_ cf_p_ g o_p_] 2 [1, 0] rfl rfl (by decide) hP hD
  have hP : va_P (dC, dI) vwCl ([(a_r_, .inl (g 0, n_r_, .inl r__2))] ++ (offS a_p_ tp_p_ hd_p_ tf_p_ cf_p_ g o_p_)) H_1 := hP
  have hD : va_D A ([(a_r_, .inl (g 0, n_r_, .inl r__2))] ++ (offS a_p_ tp_p_ hd_p_ tf_p_ cf_p_ g o_p_)) := hD
  refine W.widen (k := 0) (n := 0) (by omega) (by omega) ?_
  refine W_abs (fun QM hQM => ?_)
  have JN26 : ∀ (sk0_3 : Int32) (r__4 : Nat → Int32) (H : Heap) (locs : List Loc), (wj_L_areRefused_26 o_p_ n_r_ Q) sk0_3 r__4 → va_P (dC, dI) vwCl ([(a_r_, .inl (g 0, n_r_, .inl r__4))] ++ (offS a_p_ tp_p_ hd_p_ tf_p_ cf_p_ g o_p_)) H → va_D A ([(a_r_, .inl (g 0, n_r_, .inl r__4))] ++ (offS a_p_ tp_p_ hd_p_ tf_p_ cf_p_ g o_p_)) → va_S A s.heap H locs → ∀ (ls : Array Slot), lv_has ls 6 [(0, .ref t_p_), (1, .ref a_r_)] → W p l e (headSpec wqL_areRefused ({ frames := 9, cells := 591, slots := 3546, locals := 167 })).room s m ([.ref t_p_, .ref a_r_] : List Value).toArray below meth c H locs 0 0 QM (F0 m 26 ls [.int sk0_3]) := by
    intro sk0_3 r__4 H locs hw hP hD hS ls hl
    refine lv_istore_n (lv' := [(2, .int sk0_3), (0, .ref t_p_), (1, .ref a_r_)]) hx hb dL_areRefused_26 rfl hl (by decide) rfl (fun ls hl => ?_)
    refine lv_aload_n hx hb dL_areRefused_27 rfl (lv_at hl 1 rfl) ?_
    obtain ⟨hPs, hDs⟩ := seg_call (segs := [[(a_r_, .inl (g 0, n_r_, .inl r__4))], offS a_p_ tp_p_ hd_p_ tf_p_ cf_p_ g o_p_]) [[(a_r_, .inl (g 0, n_r_, .inl r__4))]] [offS a_p_ tp_p_ hd_p_ tf_p_ cf_p_ g o_p_] 2 [0, 1] rfl rfl (by decide) hP hD
    have hPc : va_P (dC, dI) vwCl (offS a_p_ tp_p_ hd_p_ tf_p_ cf_p_ g o_p_) H := P_r hPs
    have hDc : va_D A (offS a_p_ tp_p_ hd_p_ tf_p_ cf_p_ g o_p_) := D_r hDs
    have hFc : ∀ q, va_A (offS a_p_ tp_p_ hd_p_ tf_p_ cf_p_ g o_p_) H.size q → A q := A_all hDc hA hS.1
    refine vx_calli (vx_runV (As := []) (rest := []) ⟨hx, hb, hml, hown, hts⟩ (p_records l hlf dC dI g tp_p_ hd_p_ tf_p_ cf_p_ htf_p_ hcf_p_ a_p_ t_p_ h_p_ o_p_ (hw := hw) (sz := H.size)) (cwV 0 hts (gqV aw_7_211 aw_7_212 aw_7_213 aw_1_1 aw_7_214) rfl rfl rfl (by decide +kernel) ⟨Nat.le_of_ble_eq_true rfl, Nat.le_of_ble_eq_true rfl⟩) ⟨PG_blind, off_recv h_p_ hK hPc, PG_call hK hG hS hPc hDc hFc⟩ rfl rfl hl.1 rfl (lv_room (Nat.le_of_ble_eq_true rfl)) dL_areRefused_28 ⟨by rw [hrc]; omega, by rw [hrs]; omega⟩) hS (fun q _ h => hFc q h) hFc (fun q _ h => hFc q h) (fun E ce q9 ux t H1 locs1 ht hvm hp9 hB9 hz hk hS9 hce hcv hcl => ?_) (fun r_5 u_5 t_5 H_5 L_5 ht_5 hvm_5 hw_5 hB_5 hz_5 hk_5 hS => ?_)
    · exact (hB9.1.1).elim
    obtain ⟨ad_6, o_7⟩ := u_5
    obtain ⟨hw, had_6⟩ := hw_5
    rw [ht_5] at hB_5
    obtain ⟨hP1, hD1⟩ := hB_5
    obtain ⟨hP, hD⟩ := join_r hPs hDs hk_5 hFc hP1 hD1
    obtain ⟨hP, hD⟩ := seg_join [[(a_r_, .inl (g 0, n_r_, .inl r__4))]] [offS ad_6 tp_p_ hd_p_ tf_p_ cf_p_ g o_7] [[(a_r_, .inl (g 0, n_r_, .inl r__4))], offS ad_6 tp_p_ hd_p_ tf_p_ cf_p_ g o_7] 2 [0, 1] rfl rfl (by decide) hP hD
    have hP : va_P (dC, dI) vwCl ([(a_r_, .inl (g 0, n_r_, .inl r__4))] ++ (offS ad_6 tp_p_ hd_p_ tf_p_ cf_p_ g o_7)) H_5 := hP
    have hD : va_D A ([(a_r_, .inl (g 0, n_r_, .inl r__4))] ++ (offS ad_6 tp_p_ hd_p_ tf_p_ cf_p_ g o_7)) := hD
    refine W.widen (k := 0) (n := 0) (by omega) (by omega) ?_
    refine lv_istore_n (lv' := [(3, .int r_5), (2, .int sk0_3), (0, .ref t_p_), (1, .ref a_r_)]) hx hb dL_areRefused_31 rfl hl (by decide) rfl (fun ls hl => ?_)
    refine lv_aload_n hx hb dL_areRefused_32 rfl (lv_at hl 3 rfl) ?_
    refine lv_bipush (v := 8) hx hb dL_areRefused_33 (by decide) ?_
    obtain ⟨hPs, hDs⟩ := seg_call (segs := [[(a_r_, .inl (g 0, n_r_, .inl r__4))], offS ad_6 tp_p_ hd_p_ tf_p_ cf_p_ g o_7]) [offS ad_6 tp_p_ hd_p_ tf_p_ cf_p_ g o_7] [[(a_r_, .inl (g 0, n_r_, .inl r__4))]] 2 [1, 0] rfl rfl (by decide) hP hD
    have hPc : va_P (dC, dI) vwCl [(a_r_, .inl (g 0, n_r_, .inl r__4))] H_5 := P_r hPs
    have hDc : va_D A [(a_r_, .inl (g 0, n_r_, .inl r__4))] := D_r hDs
    have hFc : ∀ q, va_A [(a_r_, .inl (g 0, n_r_, .inl r__4))] H_5.size q → A q := A_all hDc hA hS.1
    refine va_calli (va_runS (As := [.ref a_r_, .int 8]) (rest := []) ⟨hx, hb, hml, hown, hts⟩ (c_L_draw l hlf dC dI g (a_r_ := a_r_) (n_r_ := n_r_) (r_ := r__4) (many := 8) (hw := hw) (sz := H_5.size)) (va_cwS 2 hts (gqS aw_2_215 aw_2_216 aw_1_0 aw_2_217) rfl rfl rfl (by decide +kernel) ⟨Nat.le_of_ble_eq_true rfl, Nat.le_of_ble_eq_true rfl⟩) ⟨PG_blind, PG_call hK hG hS hPc hDc hFc⟩ rfl rfl hl.1 rfl (lv_room (Nat.le_of_ble_eq_true rfl)) dL_areRefused_35 ⟨by rw [hrc]; omega, by rw [hrs]; omega⟩) hS (fun q _ h => hFc q h) hFc (fun r_8 u_8 t_8 H_8 L_8 ht_8 hvm_8 hw_8 hB_8 hz_8 hk_8 hS => ?_)
    obtain ⟨r__9, u_8⟩ := u_8
    have hw := hw_8
    rw [ht_8] at hB_8
    obtain ⟨hP1, hD1⟩ := hB_8
    obtain ⟨hP, hD⟩ := join_r hPs hDs hk_8 hFc hP1 hD1
    obtain ⟨hP, hD⟩ := seg_join [offS ad_6 tp_p_ hd_p_ tf_p_ cf_p_ g o_7] [[(a_r_, .inl (g 0, n_r_, .inl r__9))]] [[(a_r_, .inl (g 0, n_r_, .inl r__9))], offS ad_6 tp_p_ hd_p_ tf_p_ cf_p_ g o_7] 2 [1, 0] rfl rfl (by decide) hP hD
    have hP : va_P (dC, dI) vwCl ([(a_r_, .inl (g 0, n_r_, .inl r__9))] ++ (offS ad_6 tp_p_ hd_p_ tf_p_ cf_p_ g o_7)) H_8 := hP
    have hD : va_D A ([(a_r_, .inl (g 0, n_r_, .inl r__9))] ++ (offS ad_6 tp_p_ hd_p_ tf_p_ cf_p_ g o_7)) := hD
    refine W.widen (k := 0) (n := 0) (by omega) (by omega) ?_
    refine lv_istore (lv' := [(4, .int r_8), (3, .int r_5), (2, .int sk0_3), (0, .ref t_p_), (1, .ref a_r_)]) hx hb dL_areRefused_38 hl (by decide) rfl (fun ls hl => ?_)
    refine lv_aload_n hx hb dL_areRefused_40 rfl (lv_at hl 3 rfl) ?_
    refine lv_iconst (v := 0) hx hb dL_areRefused_41 (by decide) ?_
    refine lv_iload_n hx hb dL_areRefused_42 rfl (lv_at hl 2 rfl) ?_
    refine lv_sipush (v := 1000) hx hb dL_areRefused_43 (by decide) ?_
    refine lv_iconst (v := 0) hx hb dL_areRefused_46 (by decide) ?_
    obtain ⟨hPs, hDs⟩ := seg_call (segs := [[(a_r_, .inl (g 0, n_r_, .inl r__9))], offS ad_6 tp_p_ hd_p_ tf_p_ cf_p_ g o_7]) [[(a_r_, .inl (g 0, n_r_, .inl r__9))]] [offS ad_6 tp_p_ hd_p_ tf_p_ cf_p_ g o_7] 2 [0, 1] rfl rfl (by decide) hP hD
    have hPc : va_P (dC, dI) vwCl (offS ad_6 tp_p_ hd_p_ tf_p_ cf_p_ g o_7) H_8 := P_r hPs
    have hDc : va_D A (offS ad_6 tp_p_ hd_p_ tf_p_ cf_p_ g o_7) := D_r hDs
    have hFc : ∀ q, va_A (offS ad_6 tp_p_ hd_p_ tf_p_ cf_p_ g o_7) H_8.size q → A q := A_all hDc hA hS.1
    refine va_calli (vx_runSW (As := [.ref t_p_, .int 0, .int sk0_3, .int 1000, .int 0]) (rest := []) ⟨hx, hb, hml, hown, hts⟩ (c_L_asks_0 l hlf dC dI g (tp_p_ := tp_p_) (hd_p_ := hd_p_) (tf_p_ := tf_p_) (cf_p_ := cf_p_) (htf_p_ := htf_p_) (hcf_p_ := hcf_p_) (a_p_ := ad_6) (t_p_ := t_p_) (h_p_ := had_6) (o_p_ := o_7) (a_ := sk0_3) (b_ := 1000) (c_ := 0) (hw := hw) (sz := H_8.size)) (vx_cwSW 5 hts (gqS aw_4_45 aw_4_46 aw_1_0 aw_4_47) rfl rfl rfl (by decide +kernel) ⟨Nat.le_of_ble_eq_true rfl, Nat.le_of_ble_eq_true rfl⟩) ⟨PG_blind, PG_call hK hG hS hPc hDc hFc⟩ rfl rfl hl.1 rfl (lv_room (Nat.le_of_ble_eq_true rfl)) dL_areRefused_47 ⟨by rw [hrc]; omega, by rw [hrs]; omega⟩) hS (fun q _ h => hFc q h) hFc (fun r_10 u_10 t_10 H_10 L_10 ht_10 hvm_10 hw_10 hB_10 hz_10 hk_10 hS => ?_)
    obtain ⟨ad_11, o_12, u_10⟩ := u_10
    obtain ⟨hw, had_11⟩ := hw_10
    rw [ht_10] at hB_10
    obtain ⟨hP1, hD1⟩ := hB_10
    obtain ⟨hP, hD⟩ := join_r hPs hDs hk_10 hFc hP1 hD1
    obtain ⟨hP, hD⟩ := seg_join [[(a_r_, .inl (g 0, n_r_, .inl r__9))]] [offS ad_11 tp_p_ hd_p_ tf_p_ cf_p_ g o_12] [[(a_r_, .inl (g 0, n_r_, .inl r__9))], offS ad_11 tp_p_ hd_p_ tf_p_ cf_p_ g o_12] 2 [0, 1] rfl rfl (by decide) hP hD
    have hP : va_P (dC, dI) vwCl ([(a_r_, .inl (g 0, n_r_, .inl r__9))] ++ (offS ad_11 tp_p_ hd_p_ tf_p_ cf_p_ g o_12)) H_10 := hP
    have hD : va_D A ([(a_r_, .inl (g 0, n_r_, .inl r__9))] ++ (offS ad_11 tp_p_ hd_p_ tf_p_ cf_p_ g o_12)) := hD
    refine W.widen (k := 4) (n := 24) (by omega) (by omega) ?_
    refine lv_sipush (v := (-20001)) hx hb dL_areRefused_50 (by decide) ?_
    refine lv_icmp_ne (tgt := 191) hx hb dL_areRefused_53 (by decide) (fun c_13 => ?_) (fun c_13 => ?_)
    · have hw := hw.2 c_13
      refine lv_iconst (v := 0) hx hb dL_areRefused_191 (by decide) ?_
      refine W.widen (k := 591) (n := 3546) (by omega) (by omega) ?_
      subst hQM
      exact W.zret (v := 0) hx hb hr rfl (fun t ht hW => ⟨⟨_, (r__9, ad_11, o_12, ()), rfl, ⟨false, rfl, ⟨hw, had_11⟩⟩, ⟨P_at ht hP, hD⟩⟩, hS.F ht⟩) hS.2.2 dL_areRefused_192
    · have hw := hw.1 c_13
      refine lv_aload_n hx hb dL_areRefused_56 rfl (lv_at hl 3 rfl) ?_
      refine lv_iconst (v := 0) hx hb dL_areRefused_57 (by decide) ?_
      refine lv_iload hx hb dL_areRefused_58 (lv_at hl 0 rfl) ?_
      refine lv_sipush (v := 1000) hx hb dL_areRefused_60 (by decide) ?_
      refine lv_iconst (v := 0) hx hb dL_areRefused_63 (by decide) ?_
      obtain ⟨hPs, hDs⟩ := seg_call (segs := [[(a_r_, .inl (g 0, n_r_, .inl r__9))], offS ad_11 tp_p_ hd_p_ tf_p_ cf_p_ g o_12]) [[(a_r_, .inl (g 0, n_r_, .inl r__9))]] [offS ad_11 tp_p_ hd_p_ tf_p_ cf_p_ g o_12] 2 [0, 1] rfl rfl (by decide) hP hD
      have hPc : va_P (dC, dI) vwCl (offS ad_11 tp_p_ hd_p_ tf_p_ cf_p_ g o_12) H_10 := P_r hPs
      have hDc : va_D A (offS ad_11 tp_p_ hd_p_ tf_p_ cf_p_ g o_12) := D_r hDs
      have hFc : ∀ q, va_A (offS ad_11 tp_p_ hd_p_ tf_p_ cf_p_ g o_12) H_10.size q → A q := A_all hDc hA hS.1
      refine va_calli (vx_runSW (As := [.ref t_p_, .int 0, .int r_8, .int 1000, .int 0]) (rest := []) ⟨hx, hb, hml, hown, hts⟩ (c_L_asks_0 l hlf dC dI g (tp_p_ := tp_p_) (hd_p_ := hd_p_) (tf_p_ := tf_p_) (cf_p_ := cf_p_) (htf_p_ := htf_p_) (hcf_p_ := hcf_p_) (a_p_ := ad_11) (t_p_ := t_p_) (h_p_ := had_11) (o_p_ := o_12) (a_ := r_8) (b_ := 1000) (c_ := 0) (hw := hw) (sz := H_10.size)) (vx_cwSW 5 hts (gqS aw_4_45 aw_4_46 aw_1_0 aw_4_47) rfl rfl rfl (by decide +kernel) ⟨Nat.le_of_ble_eq_true rfl, Nat.le_of_ble_eq_true rfl⟩) ⟨PG_blind, PG_call hK hG hS hPc hDc hFc⟩ rfl rfl hl.1 rfl (lv_room (Nat.le_of_ble_eq_true rfl)) dL_areRefused_64 ⟨by rw [hrc]; omega, by rw [hrs]; omega⟩) hS (fun q _ h => hFc q h) hFc (fun r_14 u_14 t_14 H_14 L_14 ht_14 hvm_14 hw_14 hB_14 hz_14 hk_14 hS => ?_)
      obtain ⟨ad_15, o_16, u_14⟩ := u_14
      obtain ⟨hw, had_15⟩ := hw_14
      rw [ht_14] at hB_14
      obtain ⟨hP1, hD1⟩ := hB_14
      obtain ⟨hP, hD⟩ := join_r hPs hDs hk_14 hFc hP1 hD1
      obtain ⟨hP, hD⟩ := seg_join [[(a_r_, .inl (g 0, n_r_, .inl r__9))]] [offS ad_15 tp_p_ hd_p_ tf_p_ cf_p_ g o_16] [[(a_r_, .inl (g 0, n_r_, .inl r__9))], offS ad_15 tp_p_ hd_p_ tf_p_ cf_p_ g o_16] 2 [0, 1] rfl rfl (by decide) hP hD
      have hP : va_P (dC, dI) vwCl ([(a_r_, .inl (g 0, n_r_, .inl r__9))] ++ (offS ad_15 tp_p_ hd_p_ tf_p_ cf_p_ g o_16)) H_14 := hP
      have hD : va_D A ([(a_r_, .inl (g 0, n_r_, .inl r__9))] ++ (offS ad_15 tp_p_ hd_p_ tf_p_ cf_p_ g o_16)) := hD
      refine W.widen (k := 8) (n := 48) (by omega) (by omega) ?_
      refine lv_sipush (v := (-20003)) hx hb dL_areRefused_67 (by decide) ?_
      refine lv_icmp_ne (tgt := 191) hx hb dL_areRefused_70 (by decide) (fun c_17 => ?_) (fun c_17 => ?_)
      · have hw := hw.2 c_17
        refine lv_iconst (v := 0) hx hb dL_areRefused_191 (by decide) ?_
        refine W.widen (k := 591) (n := 3546) (by omega) (by omega) ?_
        subst hQM
        exact W.zret (v := 0) hx hb hr rfl (fun t ht hW => ⟨⟨_, (r__9, ad_15, o_16, ()), rfl, ⟨false, rfl, ⟨hw, had_15⟩⟩, ⟨P_at ht hP, hD⟩⟩, hS.F ht⟩) hS.2.2 dL_areRefused_192
      · have hw := hw.1 c_17
        refine lv_aload_n hx hb dL_areRefused_73 rfl (lv_at hl 3 rfl) ?_
        refine lv_iconst (v := 0) hx hb dL_areRefused_74 (by decide) ?_
        refine lv_iload hx hb dL_areRefused_75 (lv_at hl 0 rfl) ?_
        refine lv_iconst (v := 0) hx hb dL_areRefused_77 (by decide) ?_
        refine lv_sipush (v := 10000) hx hb dL_areRefused_78 (by decide) ?_
        obtain ⟨hPs, hDs⟩ := seg_call (segs := [[(a_r_, .inl (g 0, n_r_, .inl r__9))], offS ad_15 tp_p_ hd_p_ tf_p_ cf_p_ g o_16]) [[(a_r_, .inl (g 0, n_r_, .inl r__9))]] [offS ad_15 tp_p_ hd_p_ tf_p_ cf_p_ g o_16] 2 [0, 1] rfl rfl (by decide) hP hD
        have hPc : va_P (dC, dI) vwCl (offS ad_15 tp_p_ hd_p_ tf_p_ cf_p_ g o_16) H_14 := P_r hPs
        have hDc : va_D A (offS ad_15 tp_p_ hd_p_ tf_p_ cf_p_ g o_16) := D_r hDs
        have hFc : ∀ q, va_A (offS ad_15 tp_p_ hd_p_ tf_p_ cf_p_ g o_16) H_14.size q → A q := A_all hDc hA hS.1
        refine va_calli (vx_runSW (As := [.ref t_p_, .int 0, .int r_8, .int 0, .int 10000]) (rest := []) ⟨hx, hb, hml, hown, hts⟩ (c_L_asks_0 l hlf dC dI g (tp_p_ := tp_p_) (hd_p_ := hd_p_) (tf_p_ := tf_p_) (cf_p_ := cf_p_) (htf_p_ := htf_p_) (hcf_p_ := hcf_p_) (a_p_ := ad_15) (t_p_ := t_p_) (h_p_ := had_15) (o_p_ := o_16) (a_ := r_8) (b_ := 0) (c_ := 10000) (hw := hw) (sz := H_14.size)) (vx_cwSW 5 hts (gqS aw_4_45 aw_4_46 aw_1_0 aw_4_47) rfl rfl rfl (by decide +kernel) ⟨Nat.le_of_ble_eq_true rfl, Nat.le_of_ble_eq_true rfl⟩) ⟨PG_blind, PG_call hK hG hS hPc hDc hFc⟩ rfl rfl hl.1 rfl (lv_room (Nat.le_of_ble_eq_true rfl)) dL_areRefused_81 ⟨by rw [hrc]; omega, by rw [hrs]; omega⟩) hS (fun q _ h => hFc q h) hFc (fun r_18 u_18 t_18 H_18 L_18 ht_18 hvm_18 hw_18 hB_18 hz_18 hk_18 hS => ?_)
        obtain ⟨ad_19, o_20, u_18⟩ := u_18
        obtain ⟨hw, had_19⟩ := hw_18
        rw [ht_18] at hB_18
        obtain ⟨hP1, hD1⟩ := hB_18
        obtain ⟨hP, hD⟩ := join_r hPs hDs hk_18 hFc hP1 hD1
        obtain ⟨hP, hD⟩ := seg_join [[(a_r_, .inl (g 0, n_r_, .inl r__9))]] [offS ad_19 tp_p_ hd_p_ tf_p_ cf_p_ g o_20] [[(a_r_, .inl (g 0, n_r_, .inl r__9))], offS ad_19 tp_p_ hd_p_ tf_p_ cf_p_ g o_20] 2 [0, 1] rfl rfl (by decide) hP hD
        have hP : va_P (dC, dI) vwCl ([(a_r_, .inl (g 0, n_r_, .inl r__9))] ++ (offS ad_19 tp_p_ hd_p_ tf_p_ cf_p_ g o_20)) H_18 := hP
        have hD : va_D A ([(a_r_, .inl (g 0, n_r_, .inl r__9))] ++ (offS ad_19 tp_p_ hd_p_ tf_p_ cf_p_ g o_20)) := hD
        refine W.widen (k := 12) (n := 72) (by omega) (by omega) ?_
        refine lv_sipush (v := (-20003)) hx hb dL_areRefused_84 (by decide) ?_
        refine lv_icmp_ne (tgt := 191) hx hb dL_areRefused_87 (by decide) (fun c_21 => ?_) (fun c_21 => ?_)
        · have hw := hw.2 c_21
          refine lv_iconst (v := 0) hx hb dL_areRefused_191 (by decide) ?_
          refine W.widen (k := 591) (n := 3546) (by omega) (by omega) ?_
          subst hQM
          exact W.zret (v := 0) hx hb hr rfl (fun t ht hW => ⟨⟨_, (r__9, ad_19, o_20, ()), rfl, ⟨false, rfl, ⟨hw, had_19⟩⟩, ⟨P_at ht hP, hD⟩⟩, hS.F ht⟩) hS.2.2 dL_areRefused_192
        · have hw := hw.1 c_21
          refine lv_aload_n hx hb dL_areRefused_90 rfl (lv_at hl 3 rfl) ?_
          refine lv_iconst (v := 1) hx hb dL_areRefused_91 (by decide) ?_
          refine lv_iload hx hb dL_areRefused_92 (lv_at hl 0 rfl) ?_
          refine lv_sipush (v := 900) hx hb dL_areRefused_94 (by decide) ?_
          refine lv_bipush (v := 50) hx hb dL_areRefused_97 (by decide) ?_
          obtain ⟨hPs, hDs⟩ := seg_call (segs := [[(a_r_, .inl (g 0, n_r_, .inl r__9))], offS ad_19 tp_p_ hd_p_ tf_p_ cf_p_ g o_20]) [[(a_r_, .inl (g 0, n_r_, .inl r__9))]] [offS ad_19 tp_p_ hd_p_ tf_p_ cf_p_ g o_20] 2 [0, 1] rfl rfl (by decide) hP hD
          have hPc : va_P (dC, dI) vwCl (offS ad_19 tp_p_ hd_p_ tf_p_ cf_p_ g o_20) H_18 := P_r hPs
          have hDc : va_D A (offS ad_19 tp_p_ hd_p_ tf_p_ cf_p_ g o_20) := D_r hDs
          have hFc : ∀ q, va_A (offS ad_19 tp_p_ hd_p_ tf_p_ cf_p_ g o_20) H_18.size q → A q := A_all hDc hA hS.1
          refine va_calli (vx_runSW (As := [.ref t_p_, .int 1, .int r_8, .int 900, .int 50]) (rest := []) ⟨hx, hb, hml, hown, hts⟩ (c_L_asks_1 l hlf dC dI g (tp_p_ := tp_p_) (hd_p_ := hd_p_) (tf_p_ := tf_p_) (cf_p_ := cf_p_) (htf_p_ := htf_p_) (hcf_p_ := hcf_p_) (a_p_ := ad_19) (t_p_ := t_p_) (h_p_ := had_19) (o_p_ := o_20) (a_ := r_8) (b_ := 900) (c_ := 50) (hw := hw) (sz := H_18.size)) (vx_cwSW 5 hts (gqS aw_4_45 aw_4_46 aw_1_0 aw_4_47) rfl rfl rfl (by decide +kernel) ⟨Nat.le_of_ble_eq_true rfl, Nat.le_of_ble_eq_true rfl⟩) ⟨PG_blind, PG_call hK hG hS hPc hDc hFc⟩ rfl rfl hl.1 rfl (lv_room (Nat.le_of_ble_eq_true rfl)) dL_areRefused_99 ⟨by rw [hrc]; omega, by rw [hrs]; omega⟩) hS (fun q _ h => hFc q h) hFc (fun r_22 u_22 t_22 H_22 L_22 ht_22 hvm_22 hw_22 hB_22 hz_22 hk_22 hS => ?_)
          obtain ⟨ad_23, o_24, u_22⟩ := u_22
          obtain ⟨hw, had_23⟩ := hw_22
          rw [ht_22] at hB_22
          obtain ⟨hP1, hD1⟩ := hB_22
          obtain ⟨hP, hD⟩ := join_r hPs hDs hk_22 hFc hP1 hD1
          obtain ⟨hP, hD⟩ := seg_join [[(a_r_, .inl (g 0, n_r_, .inl r__9))]] [offS ad_23 tp_p_ hd_p_ tf_p_ cf_p_ g o_24] [[(a_r_, .inl (g 0, n_r_, .inl r__9))], offS ad_23 tp_p_ hd_p_ tf_p_ cf_p_ g o_24] 2 [0, 1] rfl rfl (by decide) hP hD
          have hP : va_P (dC, dI) vwCl ([(a_r_, .inl (g 0, n_r_, .inl r__9))] ++ (offS ad_23 tp_p_ hd_p_ tf_p_ cf_p_ g o_24)) H_22 := hP
          have hD : va_D A ([(a_r_, .inl (g 0, n_r_, .inl r__9))] ++ (offS ad_23 tp_p_ hd_p_ tf_p_ cf_p_ g o_24)) := hD
          refine W.widen (k := 18) (n := 108) (by omega) (by omega) ?_
          refine lv_sipush (v := (-20003)) hx hb dL_areRefused_102 (by decide) ?_
          refine lv_icmp_ne (tgt := 191) hx hb dL_areRefused_105 (by decide) (fun c_25 => ?_) (fun c_25 => ?_)
          · have hw := hw.2 c_25
            refine lv_iconst (v := 0) hx hb dL_areRefused_191 (by decide) ?_
            refine W.widen (k := 591) (n := 3546) (by omega) (by omega) ?_
            subst hQM
            exact W.zret (v := 0) hx hb hr rfl (fun t ht hW => ⟨⟨_, (r__9, ad_23, o_24, ()), rfl, ⟨false, rfl, ⟨hw, had_23⟩⟩, ⟨P_at ht hP, hD⟩⟩, hS.F ht⟩) hS.2.2 dL_areRefused_192
          · have hw := hw.1 c_25
            refine lv_aload_n hx hb dL_areRefused_108 rfl (lv_at hl 3 rfl) ?_
            refine lv_iconst (v := 1) hx hb dL_areRefused_109 (by decide) ?_
            refine lv_iload_n hx hb dL_areRefused_110 rfl (lv_at hl 2 rfl) ?_
            refine lv_sipush (v := 900) hx hb dL_areRefused_111 (by decide) ?_
            refine lv_bipush (v := 50) hx hb dL_areRefused_114 (by decide) ?_
            obtain ⟨hPs, hDs⟩ := seg_call (segs := [[(a_r_, .inl (g 0, n_r_, .inl r__9))], offS ad_23 tp_p_ hd_p_ tf_p_ cf_p_ g o_24]) [[(a_r_, .inl (g 0, n_r_, .inl r__9))]] [offS ad_23 tp_p_ hd_p_ tf_p_ cf_p_ g o_24] 2 [0, 1] rfl rfl (by decide) hP hD
            have hPc : va_P (dC, dI) vwCl (offS ad_23 tp_p_ hd_p_ tf_p_ cf_p_ g o_24) H_22 := P_r hPs
            have hDc : va_D A (offS ad_23 tp_p_ hd_p_ tf_p_ cf_p_ g o_24) := D_r hDs
            have hFc : ∀ q, va_A (offS ad_23 tp_p_ hd_p_ tf_p_ cf_p_ g o_24) H_22.size q → A q := A_all hDc hA hS.1
            refine va_calli (vx_runSW (As := [.ref t_p_, .int 1, .int sk0_3, .int 900, .int 50]) (rest := []) ⟨hx, hb, hml, hown, hts⟩ (c_L_asks_1 l hlf dC dI g (tp_p_ := tp_p_) (hd_p_ := hd_p_) (tf_p_ := tf_p_) (cf_p_ := cf_p_) (htf_p_ := htf_p_) (hcf_p_ := hcf_p_) (a_p_ := ad_23) (t_p_ := t_p_) (h_p_ := had_23) (o_p_ := o_24) (a_ := sk0_3) (b_ := 900) (c_ := 50) (hw := hw) (sz := H_22.size)) (vx_cwSW 5 hts (gqS aw_4_45 aw_4_46 aw_1_0 aw_4_47) rfl rfl rfl (by decide +kernel) ⟨Nat.le_of_ble_eq_true rfl, Nat.le_of_ble_eq_true rfl⟩) ⟨PG_blind, PG_call hK hG hS hPc hDc hFc⟩ rfl rfl hl.1 rfl (lv_room (Nat.le_of_ble_eq_true rfl)) dL_areRefused_116 ⟨by rw [hrc]; omega, by rw [hrs]; omega⟩) hS (fun q _ h => hFc q h) hFc (fun r_26 u_26 t_26 H_26 L_26 ht_26 hvm_26 hw_26 hB_26 hz_26 hk_26 hS => ?_)
            obtain ⟨ad_27, o_28, u_26⟩ := u_26
            obtain ⟨hw, had_27⟩ := hw_26
            rw [ht_26] at hB_26
            obtain ⟨hP1, hD1⟩ := hB_26
            obtain ⟨hP, hD⟩ := join_r hPs hDs hk_26 hFc hP1 hD1
            obtain ⟨hP, hD⟩ := seg_join [[(a_r_, .inl (g 0, n_r_, .inl r__9))]] [offS ad_27 tp_p_ hd_p_ tf_p_ cf_p_ g o_28] [[(a_r_, .inl (g 0, n_r_, .inl r__9))], offS ad_27 tp_p_ hd_p_ tf_p_ cf_p_ g o_28] 2 [0, 1] rfl rfl (by decide) hP hD
            have hP : va_P (dC, dI) vwCl ([(a_r_, .inl (g 0, n_r_, .inl r__9))] ++ (offS ad_27 tp_p_ hd_p_ tf_p_ cf_p_ g o_28)) H_26 := hP
            have hD : va_D A ([(a_r_, .inl (g 0, n_r_, .inl r__9))] ++ (offS ad_27 tp_p_ hd_p_ tf_p_ cf_p_ g o_28)) := hD
            refine W.widen (k := 24) (n := 144) (by omega) (by omega) ?_
            refine lv_sipush (v := (-20001)) hx hb dL_areRefused_119 (by decide) ?_
            refine lv_icmp_ne (tgt := 191) hx hb dL_areRefused_122 (by decide) (fun c_29 => ?_) (fun c_29 => ?_)
            · have hw := hw.2 c_29
              refine lv_iconst (v := 0) hx hb dL_areRefused_191 (by decide) ?_
              refine W.widen (k := 591) (n := 3546) (by omega) (by omega) ?_
              subst hQM
              exact W.zret (v := 0) hx hb hr rfl (fun t ht hW => ⟨⟨_, (r__9, ad_27, o_28, ()), rfl, ⟨false, rfl, ⟨hw, had_27⟩⟩, ⟨P_at ht hP, hD⟩⟩, hS.F ht⟩) hS.2.2 dL_areRefused_192
            · have hw := hw.1 c_29
              refine lv_aload_n hx hb dL_areRefused_125 rfl (lv_at hl 3 rfl) ?_
              refine lv_iconst (v := 2) hx hb dL_areRefused_126 (by decide) ?_
              refine lv_iload hx hb dL_areRefused_127 (lv_at hl 0 rfl) ?_
              refine lv_bipush (v := 51) hx hb dL_areRefused_129 (by decide) ?_
              refine lv_iconst (v := 5) hx hb dL_areRefused_131 (by decide) ?_
              obtain ⟨hPs, hDs⟩ := seg_call (segs := [[(a_r_, .inl (g 0, n_r_, .inl r__9))], offS ad_27 tp_p_ hd_p_ tf_p_ cf_p_ g o_28]) [[(a_r_, .inl (g 0, n_r_, .inl r__9))]] [offS ad_27 tp_p_ hd_p_ tf_p_ cf_p_ g o_28] 2 [0, 1] rfl rfl (by decide) hP hD
              have hPc : va_P (dC, dI) vwCl (offS ad_27 tp_p_ hd_p_ tf_p_ cf_p_ g o_28) H_26 := P_r hPs
              have hDc : va_D A (offS ad_27 tp_p_ hd_p_ tf_p_ cf_p_ g o_28) := D_r hDs
              have hFc : ∀ q, va_A (offS ad_27 tp_p_ hd_p_ tf_p_ cf_p_ g o_28) H_26.size q → A q := A_all hDc hA hS.1
              refine va_calli (vx_runSW (As := [.ref t_p_, .int 2, .int r_8, .int 51, .int 5]) (rest := []) ⟨hx, hb, hml, hown, hts⟩ (c_L_asks_2 l hlf dC dI g (tp_p_ := tp_p_) (hd_p_ := hd_p_) (tf_p_ := tf_p_) (cf_p_ := cf_p_) (htf_p_ := htf_p_) (hcf_p_ := hcf_p_) (a_p_ := ad_27) (t_p_ := t_p_) (h_p_ := had_27) (o_p_ := o_28) (a_ := r_8) (b_ := 51) (c_ := 5) (hw := hw) (sz := H_26.size)) (vx_cwSW 5 hts (gqS aw_4_45 aw_4_46 aw_1_0 aw_4_47) rfl rfl rfl (by decide +kernel) ⟨Nat.le_of_ble_eq_true rfl, Nat.le_of_ble_eq_true rfl⟩) ⟨PG_blind, PG_call hK hG hS hPc hDc hFc⟩ rfl rfl hl.1 rfl (lv_room (Nat.le_of_ble_eq_true rfl)) dL_areRefused_132 ⟨by rw [hrc]; omega, by rw [hrs]; omega⟩) hS (fun q _ h => hFc q h) hFc (fun r_30 u_30 t_30 H_30 L_30 ht_30 hvm_30 hw_30 hB_30 hz_30 hk_30 hS => ?_)
              obtain ⟨ad_31, o_32, u_30⟩ := u_30
              obtain ⟨hw, had_31⟩ := hw_30
              rw [ht_30] at hB_30
              obtain ⟨hP1, hD1⟩ := hB_30
              obtain ⟨hP, hD⟩ := join_r hPs hDs hk_30 hFc hP1 hD1
              obtain ⟨hP, hD⟩ := seg_join [[(a_r_, .inl (g 0, n_r_, .inl r__9))]] [offS ad_31 tp_p_ hd_p_ tf_p_ cf_p_ g o_32] [[(a_r_, .inl (g 0, n_r_, .inl r__9))], offS ad_31 tp_p_ hd_p_ tf_p_ cf_p_ g o_32] 2 [0, 1] rfl rfl (by decide) hP hD
              have hP : va_P (dC, dI) vwCl ([(a_r_, .inl (g 0, n_r_, .inl r__9))] ++ (offS ad_31 tp_p_ hd_p_ tf_p_ cf_p_ g o_32)) H_30 := hP
              have hD : va_D A ([(a_r_, .inl (g 0, n_r_, .inl r__9))] ++ (offS ad_31 tp_p_ hd_p_ tf_p_ cf_p_ g o_32)) := hD
              refine W.widen (k := 28) (n := 168) (by omega) (by omega) ?_
              refine lv_sipush (v := (-20003)) hx hb dL_areRefused_135 (by decide) ?_
              refine lv_icmp_ne (tgt := 191) hx hb dL_areRefused_138 (by decide) (fun c_33 => ?_) (fun c_33 => ?_)
              · have hw := hw.2 c_33
                refine lv_iconst (v := 0) hx hb dL_areRefused_191 (by decide) ?_
                refine W.widen (k := 591) (n := 3546) (by omega) (by omega) ?_
                subst hQM
                exact W.zret (v := 0) hx hb hr rfl (fun t ht hW => ⟨⟨_, (r__9, ad_31, o_32, ()), rfl, ⟨false, rfl, ⟨hw, had_31⟩⟩, ⟨P_at ht hP, hD⟩⟩, hS.F ht⟩) hS.2.2 dL_areRefused_192
              · have hw := hw.1 c_33
                refine lv_aload_n hx hb dL_areRefused_141 rfl (lv_at hl 3 rfl) ?_
                refine lv_iconst (v := 2) hx hb dL_areRefused_142 (by decide) ?_
                refine lv_iload hx hb dL_areRefused_143 (lv_at hl 0 rfl) ?_
                refine lv_iconst (v := 5) hx hb dL_areRefused_145 (by decide) ?_
                refine lv_iconst (v := 0) hx hb dL_areRefused_146 (by decide) ?_
                obtain ⟨hPs, hDs⟩ := seg_call (segs := [[(a_r_, .inl (g 0, n_r_, .inl r__9))], offS ad_31 tp_p_ hd_p_ tf_p_ cf_p_ g o_32]) [[(a_r_, .inl (g 0, n_r_, .inl r__9))]] [offS ad_31 tp_p_ hd_p_ tf_p_ cf_p_ g o_32] 2 [0, 1] rfl rfl (by decide) hP hD
                have hPc : va_P (dC, dI) vwCl (offS ad_31 tp_p_ hd_p_ tf_p_ cf_p_ g o_32) H_30 := P_r hPs
                have hDc : va_D A (offS ad_31 tp_p_ hd_p_ tf_p_ cf_p_ g o_32) := D_r hDs
                have hFc : ∀ q, va_A (offS ad_31 tp_p_ hd_p_ tf_p_ cf_p_ g o_32) H_30.size q → A q := A_all hDc hA hS.1
                refine va_calli (vx_runSW (As := [.ref t_p_, .int 2, .int r_8, .int 5, .int 0]) (rest := []) ⟨hx, hb, hml, hown, hts⟩ (c_L_asks_2 l hlf dC dI g (tp_p_ := tp_p_) (hd_p_ := hd_p_) (tf_p_ := tf_p_) (cf_p_ := cf_p_) (htf_p_ := htf_p_) (hcf_p_ := hcf_p_) (a_p_ := ad_31) (t_p_ := t_p_) (h_p_ := had_31) (o_p_ := o_32) (a_ := r_8) (b_ := 5) (c_ := 0) (hw := hw) (sz := H_30.size)) (vx_cwSW 5 hts (gqS aw_4_45 aw_4_46 aw_1_0 aw_4_47) rfl rfl rfl (by decide +kernel) ⟨Nat.le_of_ble_eq_true rfl, Nat.le_of_ble_eq_true rfl⟩) ⟨PG_blind, PG_call hK hG hS hPc hDc hFc⟩ rfl rfl hl.1 rfl (lv_room (Nat.le_of_ble_eq_true rfl)) dL_areRefused_147 ⟨by rw [hrc]; omega, by rw [hrs]; omega⟩) hS (fun q _ h => hFc q h) hFc (fun r_34 u_34 t_34 H_34 L_34 ht_34 hvm_34 hw_34 hB_34 hz_34 hk_34 hS => ?_)
                obtain ⟨ad_35, o_36, u_34⟩ := u_34
                obtain ⟨hw, had_35⟩ := hw_34
                rw [ht_34] at hB_34
                obtain ⟨hP1, hD1⟩ := hB_34
                obtain ⟨hP, hD⟩ := join_r hPs hDs hk_34 hFc hP1 hD1
                obtain ⟨hP, hD⟩ := seg_join [[(a_r_, .inl (g 0, n_r_, .inl r__9))]] [offS ad_35 tp_p_ hd_p_ tf_p_ cf_p_ g o_36] [[(a_r_, .inl (g 0, n_r_, .inl r__9))], offS ad_35 tp_p_ hd_p_ tf_p_ cf_p_ g o_36] 2 [0, 1] rfl rfl (by decide) hP hD
                have hP : va_P (dC, dI) vwCl ([(a_r_, .inl (g 0, n_r_, .inl r__9))] ++ (offS ad_35 tp_p_ hd_p_ tf_p_ cf_p_ g o_36)) H_34 := hP
                have hD : va_D A ([(a_r_, .inl (g 0, n_r_, .inl r__9))] ++ (offS ad_35 tp_p_ hd_p_ tf_p_ cf_p_ g o_36)) := hD
                refine W.widen (k := 32) (n := 192) (by omega) (by omega) ?_
                refine lv_sipush (v := (-20003)) hx hb dL_areRefused_150 (by decide) ?_
                refine lv_icmp_ne (tgt := 191) hx hb dL_areRefused_153 (by decide) (fun c_37 => ?_) (fun c_37 => ?_)
                · have hw := hw.2 c_37
                  refine lv_iconst (v := 0) hx hb dL_areRefused_191 (by decide) ?_
                  refine W.widen (k := 591) (n := 3546) (by omega) (by omega) ?_
                  subst hQM
                  exact W.zret (v := 0) hx hb hr rfl (fun t ht hW => ⟨⟨_, (r__9, ad_35, o_36, ()), rfl, ⟨false, rfl, ⟨hw, had_35⟩⟩, ⟨P_at ht hP, hD⟩⟩, hS.F ht⟩) hS.2.2 dL_areRefused_192
                · have hw := hw.1 c_37
                  refine lv_aload_n hx hb dL_areRefused_156 rfl (lv_at hl 3 rfl) ?_
                  refine lv_iconst (v := 3) hx hb dL_areRefused_157 (by decide) ?_
                  refine lv_iload hx hb dL_areRefused_158 (lv_at hl 0 rfl) ?_
                  refine lv_aload_n hx hb dL_areRefused_160 rfl (lv_at hl 3 rfl) ?_
                  refine lv_iload hx hb dL_areRefused_161 (lv_at hl 0 rfl) ?_
                  obtain ⟨hPs, hDs⟩ := seg_call (segs := [[(a_r_, .inl (g 0, n_r_, .inl r__9))], offS ad_35 tp_p_ hd_p_ tf_p_ cf_p_ g o_36]) [[(a_r_, .inl (g 0, n_r_, .inl r__9))]] [offS ad_35 tp_p_ hd_p_ tf_p_ cf_p_ g o_36] 2 [0, 1] rfl rfl (by decide) hP hD
                  have hPc : va_P (dC, dI) vwCl (offS ad_35 tp_p_ hd_p_ tf_p_ cf_p_ g o_36) H_34 := P_r hPs
                  have hDc : va_D A (offS ad_35 tp_p_ hd_p_ tf_p_ cf_p_ g o_36) := D_r hDs
                  have hFc : ∀ q, va_A (offS ad_35 tp_p_ hd_p_ tf_p_ cf_p_ g o_36) H_34.size q → A q := A_all hDc hA hS.1
                  refine vx_calli (vx_runV (As := [.int r_8]) (rest := [.int r_8, .int 3, .ref t_p_]) ⟨hx, hb, hml, hown, hts⟩ (p_length l hlf dC dI g tp_p_ hd_p_ tf_p_ cf_p_ htf_p_ hcf_p_ ad_35 t_p_ had_35 o_36 r_8 (hw := hw) (sz := H_34.size)) (cwV 1 hts (gqV aw_3_161 aw_3_162 aw_3_163 aw_1_1 aw_3_164) rfl rfl rfl (by decide +kernel) ⟨Nat.le_of_ble_eq_true rfl, Nat.le_of_ble_eq_true rfl⟩) ⟨PG_blind, off_recv had_35 hK hPc, PG_call hK hG hS hPc hDc hFc⟩ rfl rfl hl.1 rfl (lv_room (Nat.le_of_ble_eq_true rfl)) dL_areRefused_163 ⟨by rw [hrc]; omega, by rw [hrs]; omega⟩) hS (fun q _ h => hFc q h) hFc (fun q _ h => hFc q h) (fun E ce q9 ux t H1 locs1 ht hvm hp9 hB9 hz hk hS9 hce hcv hcl => ?_) (fun r_38 u_38 t_38 H_38 L_38 ht_38 hvm_38 hw_38 hB_38 hz_38 hk_38 hS => ?_)
                  · exact (hB9.1.1).elim
                  obtain ⟨ad_39, o_40⟩ := u_38
                  obtain ⟨hw, had_39⟩ := hw_38
                  rw [ht_38] at hB_38
                  obtain ⟨hP1, hD1⟩ := hB_38
                  obtain ⟨hP, hD⟩ := join_r hPs hDs hk_38 hFc hP1 hD1
                  obtain ⟨hP, hD⟩ := seg_join [[(a_r_, .inl (g 0, n_r_, .inl r__9))]] [offS ad_39 tp_p_ hd_p_ tf_p_ cf_p_ g o_40] [[(a_r_, .inl (g 0, n_r_, .inl r__9))], offS ad_39 tp_p_ hd_p_ tf_p_ cf_p_ g o_40] 2 [0, 1] rfl rfl (by decide) hP hD
                  have hP : va_P (dC, dI) vwCl ([(a_r_, .inl (g 0, n_r_, .inl r__9))] ++ (offS ad_39 tp_p_ hd_p_ tf_p_ cf_p_ g o_40)) H_38 := hP
                  have hD : va_D A ([(a_r_, .inl (g 0, n_r_, .inl r__9))] ++ (offS ad_39 tp_p_ hd_p_ tf_p_ cf_p_ g o_40)) := hD
                  refine W.widen (k := 33) (n := 198) (by omega) (by omega) ?_
                  refine lv_iconst (v := 0) hx hb dL_areRefused_166 (by decide) ?_
                  obtain ⟨hPs, hDs⟩ := seg_call (segs := [[(a_r_, .inl (g 0, n_r_, .inl r__9))], offS ad_39 tp_p_ hd_p_ tf_p_ cf_p_ g o_40]) [[(a_r_, .inl (g 0, n_r_, .inl r__9))]] [offS ad_39 tp_p_ hd_p_ tf_p_ cf_p_ g o_40] 2 [0, 1] rfl rfl (by decide) hP hD
                  have hPc : va_P (dC, dI) vwCl (offS ad_39 tp_p_ hd_p_ tf_p_ cf_p_ g o_40) H_38 := P_r hPs
                  have hDc : va_D A (offS ad_39 tp_p_ hd_p_ tf_p_ cf_p_ g o_40) := D_r hDs
                  have hFc : ∀ q, va_A (offS ad_39 tp_p_ hd_p_ tf_p_ cf_p_ g o_40) H_38.size q → A q := A_all hDc hA hS.1
                  refine va_calli (vx_runSW (As := [.ref t_p_, .int 3, .int r_8, .int r_38, .int 0]) (rest := []) ⟨hx, hb, hml, hown, hts⟩ (c_L_asks_3 l hlf dC dI g (tp_p_ := tp_p_) (hd_p_ := hd_p_) (tf_p_ := tf_p_) (cf_p_ := cf_p_) (htf_p_ := htf_p_) (hcf_p_ := hcf_p_) (a_p_ := ad_39) (t_p_ := t_p_) (h_p_ := had_39) (o_p_ := o_40) (a_ := r_8) (b_ := r_38) (c_ := 0) (hw := hw) (sz := H_38.size)) (vx_cwSW 5 hts (gqS aw_4_45 aw_4_46 aw_1_0 aw_4_47) rfl rfl rfl (by decide +kernel) ⟨Nat.le_of_ble_eq_true rfl, Nat.le_of_ble_eq_true rfl⟩) ⟨PG_blind, PG_call hK hG hS hPc hDc hFc⟩ rfl rfl hl.1 rfl (lv_room (Nat.le_of_ble_eq_true rfl)) dL_areRefused_167 ⟨by rw [hrc]; omega, by rw [hrs]; omega⟩) hS (fun q _ h => hFc q h) hFc (fun r_41 u_41 t_41 H_41 L_41 ht_41 hvm_41 hw_41 hB_41 hz_41 hk_41 hS => ?_)
                  obtain ⟨ad_42, o_43, u_41⟩ := u_41
                  obtain ⟨hw, had_42⟩ := hw_41
                  rw [ht_41] at hB_41
                  obtain ⟨hP1, hD1⟩ := hB_41
                  obtain ⟨hP, hD⟩ := join_r hPs hDs hk_41 hFc hP1 hD1
                  obtain ⟨hP, hD⟩ := seg_join [[(a_r_, .inl (g 0, n_r_, .inl r__9))]] [offS ad_42 tp_p_ hd_p_ tf_p_ cf_p_ g o_43] [[(a_r_, .inl (g 0, n_r_, .inl r__9))], offS ad_42 tp_p_ hd_p_ tf_p_ cf_p_ g o_43] 2 [0, 1] rfl rfl (by decide) hP hD
                  have hP : va_P (dC, dI) vwCl ([(a_r_, .inl (g 0, n_r_, .inl r__9))] ++ (offS ad_42 tp_p_ hd_p_ tf_p_ cf_p_ g o_43)) H_41 := hP
                  have hD : va_D A ([(a_r_, .inl (g 0, n_r_, .inl r__9))] ++ (offS ad_42 tp_p_ hd_p_ tf_p_ cf_p_ g o_43)) := hD
                  refine W.widen (k := 35) (n := 210) (by omega) (by omega) ?_
                  refine lv_sipush (v := (-20001)) hx hb dL_areRefused_170 (by decide) ?_
                  refine lv_icmp_ne (tgt := 191) hx hb dL_areRefused_173 (by decide) (fun c_44 => ?_) (fun c_44 => ?_)
                  · have hw := hw.2 c_44
                    refine lv_iconst (v := 0) hx hb dL_areRefused_191 (by decide) ?_
                    refine W.widen (k := 591) (n := 3546) (by omega) (by omega) ?_
                    subst hQM
                    exact W.zret (v := 0) hx hb hr rfl (fun t ht hW => ⟨⟨_, (r__9, ad_42, o_43, ()), rfl, ⟨false, rfl, ⟨hw, had_42⟩⟩, ⟨P_at ht hP, hD⟩⟩, hS.F ht⟩) hS.2.2 dL_areRefused_192
                  · have hw := hw.1 c_44
                    refine lv_aload_n hx hb dL_areRefused_176 rfl (lv_at hl 3 rfl) ?_
                    refine lv_iconst (v := 3) hx hb dL_areRefused_177 (by decide) ?_
                    refine lv_iload hx hb dL_areRefused_178 (lv_at hl 0 rfl) ?_
                    refine lv_iconst (v := (-1)) hx hb dL_areRefused_180 (by decide) ?_
                    refine lv_iconst (v := 0) hx hb dL_areRefused_181 (by decide) ?_
                    obtain ⟨hPs, hDs⟩ := seg_call (segs := [[(a_r_, .inl (g 0, n_r_, .inl r__9))], offS ad_42 tp_p_ hd_p_ tf_p_ cf_p_ g o_43]) [[(a_r_, .inl (g 0, n_r_, .inl r__9))]] [offS ad_42 tp_p_ hd_p_ tf_p_ cf_p_ g o_43] 2 [0, 1] rfl rfl (by decide) hP hD
                    have hPc : va_P (dC, dI) vwCl (offS ad_42 tp_p_ hd_p_ tf_p_ cf_p_ g o_43) H_41 := P_r hPs
                    have hDc : va_D A (offS ad_42 tp_p_ hd_p_ tf_p_ cf_p_ g o_43) := D_r hDs
                    have hFc : ∀ q, va_A (offS ad_42 tp_p_ hd_p_ tf_p_ cf_p_ g o_43) H_41.size q → A q := A_all hDc hA hS.1
                    refine va_calli (vx_runSW (As := [.ref t_p_, .int 3, .int r_8, .int (-1), .int 0]) (rest := []) ⟨hx, hb, hml, hown, hts⟩ (c_L_asks_3 l hlf dC dI g (tp_p_ := tp_p_) (hd_p_ := hd_p_) (tf_p_ := tf_p_) (cf_p_ := cf_p_) (htf_p_ := htf_p_) (hcf_p_ := hcf_p_) (a_p_ := ad_42) (t_p_ := t_p_) (h_p_ := had_42) (o_p_ := o_43) (a_ := r_8) (b_ := (-1)) (c_ := 0) (hw := hw) (sz := H_41.size)) (vx_cwSW 5 hts (gqS aw_4_45 aw_4_46 aw_1_0 aw_4_47) rfl rfl rfl (by decide +kernel) ⟨Nat.le_of_ble_eq_true rfl, Nat.le_of_ble_eq_true rfl⟩) ⟨PG_blind, PG_call hK hG hS hPc hDc hFc⟩ rfl rfl hl.1 rfl (lv_room (Nat.le_of_ble_eq_true rfl)) dL_areRefused_182 ⟨by rw [hrc]; omega, by rw [hrs]; omega⟩) hS (fun q _ h => hFc q h) hFc (fun r_45 u_45 t_45 H_45 L_45 ht_45 hvm_45 hw_45 hB_45 hz_45 hk_45 hS => ?_)
                    obtain ⟨ad_46, o_47, u_45⟩ := u_45
                    obtain ⟨hw, had_46⟩ := hw_45
                    rw [ht_45] at hB_45
                    obtain ⟨hP1, hD1⟩ := hB_45
                    obtain ⟨hP, hD⟩ := join_r hPs hDs hk_45 hFc hP1 hD1
                    obtain ⟨hP, hD⟩ := seg_join [[(a_r_, .inl (g 0, n_r_, .inl r__9))]] [offS ad_46 tp_p_ hd_p_ tf_p_ cf_p_ g o_47] [[(a_r_, .inl (g 0, n_r_, .inl r__9))], offS ad_46 tp_p_ hd_p_ tf_p_ cf_p_ g o_47] 2 [0, 1] rfl rfl (by decide) hP hD
                    have hP : va_P (dC, dI) vwCl ([(a_r_, .inl (g 0, n_r_, .inl r__9))] ++ (offS ad_46 tp_p_ hd_p_ tf_p_ cf_p_ g o_47)) H_45 := hP
                    have hD : va_D A ([(a_r_, .inl (g 0, n_r_, .inl r__9))] ++ (offS ad_46 tp_p_ hd_p_ tf_p_ cf_p_ g o_47)) := hD
                    refine W.widen (k := 37) (n := 222) (by omega) (by omega) ?_
                    refine lv_sipush (v := (-20001)) hx hb dL_areRefused_185 (by decide) ?_
                    refine lv_icmp_eq (tgt := 193) hx hb dL_areRefused_188 (by decide) (fun c_48 => ?_) (fun c_48 => ?_)
                    · have hw := hw.1 c_48
                      refine lv_aload_n hx hb dL_areRefused_193 rfl (lv_at hl 3 rfl) ?_
                      refine lv_iconst (v := 4) hx hb dL_areRefused_194 (by decide) ?_
                      refine lv_iconst (v := 2) hx hb dL_areRefused_195 (by decide) ?_
                      refine lv_iconst (v := 0) hx hb dL_areRefused_196 (by decide) ?_
                      refine lv_iconst (v := 1) hx hb dL_areRefused_197 (by decide) ?_
                      obtain ⟨hPs, hDs⟩ := seg_call (segs := [[(a_r_, .inl (g 0, n_r_, .inl r__9))], offS ad_46 tp_p_ hd_p_ tf_p_ cf_p_ g o_47]) [[(a_r_, .inl (g 0, n_r_, .inl r__9))]] [offS ad_46 tp_p_ hd_p_ tf_p_ cf_p_ g o_47] 2 [0, 1] rfl rfl (by decide) hP hD
                      have hPc : va_P (dC, dI) vwCl (offS ad_46 tp_p_ hd_p_ tf_p_ cf_p_ g o_47) H_45 := P_r hPs
                      have hDc : va_D A (offS ad_46 tp_p_ hd_p_ tf_p_ cf_p_ g o_47) := D_r hDs
                      have hFc : ∀ q, va_A (offS ad_46 tp_p_ hd_p_ tf_p_ cf_p_ g o_47) H_45.size q → A q := A_all hDc hA hS.1
                      refine va_calli (vx_runSW (As := [.ref t_p_, .int 4, .int 2, .int 0, .int 1]) (rest := []) ⟨hx, hb, hml, hown, hts⟩ (c_L_asks_4 l hlf dC dI g (tp_p_ := tp_p_) (hd_p_ := hd_p_) (tf_p_ := tf_p_) (cf_p_ := cf_p_) (htf_p_ := htf_p_) (hcf_p_ := hcf_p_) (a_p_ := ad_46) (t_p_ := t_p_) (h_p_ := had_46) (o_p_ := o_47) (a_ := 2) (b_ := 0) (c_ := 1) (hw := hw) (sz := H_45.size)) (vx_cwSW 5 hts (gqS aw_4_45 aw_4_46 aw_1_0 aw_4_47) rfl rfl rfl (by decide +kernel) ⟨Nat.le_of_ble_eq_true rfl, Nat.le_of_ble_eq_true rfl⟩) ⟨PG_blind, PG_call hK hG hS hPc hDc hFc⟩ rfl rfl hl.1 rfl (lv_room (Nat.le_of_ble_eq_true rfl)) dL_areRefused_198 ⟨by rw [hrc]; omega, by rw [hrs]; omega⟩) hS (fun q _ h => hFc q h) hFc (fun r_49 u_49 t_49 H_49 L_49 ht_49 hvm_49 hw_49 hB_49 hz_49 hk_49 hS => ?_)
                      obtain ⟨ad_50, o_51, u_49⟩ := u_49
                      obtain ⟨hw, had_50⟩ := hw_49
                      rw [ht_49] at hB_49
                      obtain ⟨hP1, hD1⟩ := hB_49
                      obtain ⟨hP, hD⟩ := join_r hPs hDs hk_49 hFc hP1 hD1
                      obtain ⟨hP, hD⟩ := seg_join [[(a_r_, .inl (g 0, n_r_, .inl r__9))]] [offS ad_50 tp_p_ hd_p_ tf_p_ cf_p_ g o_51] [[(a_r_, .inl (g 0, n_r_, .inl r__9))], offS ad_50 tp_p_ hd_p_ tf_p_ cf_p_ g o_51] 2 [0, 1] rfl rfl (by decide) hP hD
                      have hP : va_P (dC, dI) vwCl ([(a_r_, .inl (g 0, n_r_, .inl r__9))] ++ (offS ad_50 tp_p_ hd_p_ tf_p_ cf_p_ g o_51)) H_49 := hP
                      have hD : va_D A ([(a_r_, .inl (g 0, n_r_, .inl r__9))] ++ (offS ad_50 tp_p_ hd_p_ tf_p_ cf_p_ g o_51)) := hD
                      refine W.widen (k := 40) (n := 240) (by omega) (by omega) ?_
                      refine lv_sipush (v := (-20003)) hx hb dL_areRefused_201 (by decide) ?_
                      refine lv_icmp_ne (tgt := 385) hx hb dL_areRefused_204 (by decide) (fun c_52 => ?_) (fun c_52 => ?_)
                      · have hw := hw.2 c_52
                        refine lv_iconst (v := 0) hx hb dL_areRefused_385 (by decide) ?_
                        refine W.widen (k := 591) (n := 3546) (by omega) (by omega) ?_
                        subst hQM
                        exact W.zret (v := 0) hx hb hr rfl (fun t ht hW => ⟨⟨_, (r__9, ad_50, o_51, ()), rfl, ⟨false, rfl, ⟨hw, had_50⟩⟩, ⟨P_at ht hP, hD⟩⟩, hS.F ht⟩) hS.2.2 dL_areRefused_386
                      · have hw := hw.1 c_52
                        refine lv_aload_n hx hb dL_areRefused_207 rfl (lv_at hl 3 rfl) ?_
                        refine lv_iconst (v := 4) hx hb dL_areRefused_208 (by decide) ?_
                        refine lv_iconst (v := 0) hx hb dL_areRefused_209 (by decide) ?_
                        refine lv_iconst (v := 3) hx hb dL_areRefused_210 (by decide) ?_
                        refine lv_iconst (v := 1) hx hb dL_areRefused_211 (by decide) ?_
                        obtain ⟨hPs, hDs⟩ := seg_call (segs := [[(a_r_, .inl (g 0, n_r_, .inl r__9))], offS ad_50 tp_p_ hd_p_ tf_p_ cf_p_ g o_51]) [[(a_r_, .inl (g 0, n_r_, .inl r__9))]] [offS ad_50 tp_p_ hd_p_ tf_p_ cf_p_ g o_51] 2 [0, 1] rfl rfl (by decide) hP hD
                        have hPc : va_P (dC, dI) vwCl (offS ad_50 tp_p_ hd_p_ tf_p_ cf_p_ g o_51) H_49 := P_r hPs
                        have hDc : va_D A (offS ad_50 tp_p_ hd_p_ tf_p_ cf_p_ g o_51) := D_r hDs
                        have hFc : ∀ q, va_A (offS ad_50 tp_p_ hd_p_ tf_p_ cf_p_ g o_51) H_49.size q → A q := A_all hDc hA hS.1
                        refine va_calli (vx_runSW (As := [.ref t_p_, .int 4, .int 0, .int 3, .int 1]) (rest := []) ⟨hx, hb, hml, hown, hts⟩ (c_L_asks_4 l hlf dC dI g (tp_p_ := tp_p_) (hd_p_ := hd_p_) (tf_p_ := tf_p_) (cf_p_ := cf_p_) (htf_p_ := htf_p_) (hcf_p_ := hcf_p_) (a_p_ := ad_50) (t_p_ := t_p_) (h_p_ := had_50) (o_p_ := o_51) (a_ := 0) (b_ := 3) (c_ := 1) (hw := hw) (sz := H_49.size)) (vx_cwSW 5 hts (gqS aw_4_45 aw_4_46 aw_1_0 aw_4_47) rfl rfl rfl (by decide +kernel) ⟨Nat.le_of_ble_eq_true rfl, Nat.le_of_ble_eq_true rfl⟩) ⟨PG_blind, PG_call hK hG hS hPc hDc hFc⟩ rfl rfl hl.1 rfl (lv_room (Nat.le_of_ble_eq_true rfl)) dL_areRefused_212 ⟨by rw [hrc]; omega, by rw [hrs]; omega⟩) hS (fun q _ h => hFc q h) hFc (fun r_53 u_53 t_53 H_53 L_53 ht_53 hvm_53 hw_53 hB_53 hz_53 hk_53 hS => ?_)
                        obtain ⟨ad_54, o_55, u_53⟩ := u_53
                        obtain ⟨hw, had_54⟩ := hw_53
                        rw [ht_53] at hB_53
                        obtain ⟨hP1, hD1⟩ := hB_53
                        obtain ⟨hP, hD⟩ := join_r hPs hDs hk_53 hFc hP1 hD1
                        obtain ⟨hP, hD⟩ := seg_join [[(a_r_, .inl (g 0, n_r_, .inl r__9))]] [offS ad_54 tp_p_ hd_p_ tf_p_ cf_p_ g o_55] [[(a_r_, .inl (g 0, n_r_, .inl r__9))], offS ad_54 tp_p_ hd_p_ tf_p_ cf_p_ g o_55] 2 [0, 1] rfl rfl (by decide) hP hD
                        have hP : va_P (dC, dI) vwCl ([(a_r_, .inl (g 0, n_r_, .inl r__9))] ++ (offS ad_54 tp_p_ hd_p_ tf_p_ cf_p_ g o_55)) H_53 := hP
                        have hD : va_D A ([(a_r_, .inl (g 0, n_r_, .inl r__9))] ++ (offS ad_54 tp_p_ hd_p_ tf_p_ cf_p_ g o_55)) := hD
                        refine W.widen (k := 43) (n := 258) (by omega) (by omega) ?_
                        refine lv_sipush (v := (-20003)) hx hb dL_areRefused_215 (by decide) ?_
                        refine lv_icmp_ne (tgt := 385) hx hb dL_areRefused_218 (by decide) (fun c_56 => ?_) (fun c_56 => ?_)
                        · have hw := hw.2 c_56
                          refine lv_iconst (v := 0) hx hb dL_areRefused_385 (by decide) ?_
                          refine W.widen (k := 591) (n := 3546) (by omega) (by omega) ?_
                          subst hQM
                          exact W.zret (v := 0) hx hb hr rfl (fun t ht hW => ⟨⟨_, (r__9, ad_54, o_55, ()), rfl, ⟨false, rfl, ⟨hw, had_54⟩⟩, ⟨P_at ht hP, hD⟩⟩, hS.F ht⟩) hS.2.2 dL_areRefused_386
                        · have hw := hw.1 c_56
                          refine lv_aload_n hx hb dL_areRefused_221 rfl (lv_at hl 3 rfl) ?_
                          refine lv_iconst (v := 4) hx hb dL_areRefused_222 (by decide) ?_
                          refine lv_iconst (v := 0) hx hb dL_areRefused_223 (by decide) ?_
                          refine lv_iconst (v := 0) hx hb dL_areRefused_224 (by decide) ?_
                          refine lv_bipush (v := 51) hx hb dL_areRefused_225 (by decide) ?_
                          obtain ⟨hPs, hDs⟩ := seg_call (segs := [[(a_r_, .inl (g 0, n_r_, .inl r__9))], offS ad_54 tp_p_ hd_p_ tf_p_ cf_p_ g o_55]) [[(a_r_, .inl (g 0, n_r_, .inl r__9))]] [offS ad_54 tp_p_ hd_p_ tf_p_ cf_p_ g o_55] 2 [0, 1] rfl rfl (by decide) hP hD
                          have hPc : va_P (dC, dI) vwCl (offS ad_54 tp_p_ hd_p_ tf_p_ cf_p_ g o_55) H_53 := P_r hPs
                          have hDc : va_D A (offS ad_54 tp_p_ hd_p_ tf_p_ cf_p_ g o_55) := D_r hDs
                          have hFc : ∀ q, va_A (offS ad_54 tp_p_ hd_p_ tf_p_ cf_p_ g o_55) H_53.size q → A q := A_all hDc hA hS.1
                          refine va_calli (vx_runSW (As := [.ref t_p_, .int 4, .int 0, .int 0, .int 51]) (rest := []) ⟨hx, hb, hml, hown, hts⟩ (c_L_asks_4 l hlf dC dI g (tp_p_ := tp_p_) (hd_p_ := hd_p_) (tf_p_ := tf_p_) (cf_p_ := cf_p_) (htf_p_ := htf_p_) (hcf_p_ := hcf_p_) (a_p_ := ad_54) (t_p_ := t_p_) (h_p_ := had_54) (o_p_ := o_55) (a_ := 0) (b_ := 0) (c_ := 51) (hw := hw) (sz := H_53.size)) (vx_cwSW 5 hts (gqS aw_4_45 aw_4_46 aw_1_0 aw_4_47) rfl rfl rfl (by decide +kernel) ⟨Nat.le_of_ble_eq_true rfl, Nat.le_of_ble_eq_true rfl⟩) ⟨PG_blind, PG_call hK hG hS hPc hDc hFc⟩ rfl rfl hl.1 rfl (lv_room (Nat.le_of_ble_eq_true rfl)) dL_areRefused_227 ⟨by rw [hrc]; omega, by rw [hrs]; omega⟩) hS (fun q _ h => hFc q h) hFc (fun r_57 u_57 t_57 H_57 L_57 ht_57 hvm_57 hw_57 hB_57 hz_57 hk_57 hS => ?_)
                          obtain ⟨ad_58, o_59, u_57⟩ := u_57
                          obtain ⟨hw, had_58⟩ := hw_57
                          rw [ht_57] at hB_57
                          obtain ⟨hP1, hD1⟩ := hB_57
                          obtain ⟨hP, hD⟩ := join_r hPs hDs hk_57 hFc hP1 hD1
                          obtain ⟨hP, hD⟩ := seg_join [[(a_r_, .inl (g 0, n_r_, .inl r__9))]] [offS ad_58 tp_p_ hd_p_ tf_p_ cf_p_ g o_59] [[(a_r_, .inl (g 0, n_r_, .inl r__9))], offS ad_58 tp_p_ hd_p_ tf_p_ cf_p_ g o_59] 2 [0, 1] rfl rfl (by decide) hP hD
                          have hP : va_P (dC, dI) vwCl ([(a_r_, .inl (g 0, n_r_, .inl r__9))] ++ (offS ad_58 tp_p_ hd_p_ tf_p_ cf_p_ g o_59)) H_57 := hP
                          have hD : va_D A ([(a_r_, .inl (g 0, n_r_, .inl r__9))] ++ (offS ad_58 tp_p_ hd_p_ tf_p_ cf_p_ g o_59)) := hD
                          refine W.widen (k := 46) (n := 276) (by omega) (by omega) ?_
                          refine lv_sipush (v := (-20003)) hx hb dL_areRefused_230 (by decide) ?_
                          refine lv_icmp_ne (tgt := 385) hx hb dL_areRefused_233 (by decide) (fun c_60 => ?_) (fun c_60 => ?_)
                          · have hw := hw.2 c_60
                            refine lv_iconst (v := 0) hx hb dL_areRefused_385 (by decide) ?_
                            refine W.widen (k := 591) (n := 3546) (by omega) (by omega) ?_
                            subst hQM
                            exact W.zret (v := 0) hx hb hr rfl (fun t ht hW => ⟨⟨_, (r__9, ad_58, o_59, ()), rfl, ⟨false, rfl, ⟨hw, had_58⟩⟩, ⟨P_at ht hP, hD⟩⟩, hS.F ht⟩) hS.2.2 dL_areRefused_386
                          · have hw := hw.1 c_60
                            refine lv_aload_n hx hb dL_areRefused_236 rfl (lv_at hl 3 rfl) ?_
                            refine lv_iconst (v := 5) hx hb dL_areRefused_237 (by decide) ?_
                            refine lv_iconst (v := 3) hx hb dL_areRefused_238 (by decide) ?_
                            refine lv_iconst (v := 2) hx hb dL_areRefused_239 (by decide) ?_
                            refine lv_iconst (v := 0) hx hb dL_areRefused_240 (by decide) ?_
                            obtain ⟨hPs, hDs⟩ := seg_call (segs := [[(a_r_, .inl (g 0, n_r_, .inl r__9))], offS ad_58 tp_p_ hd_p_ tf_p_ cf_p_ g o_59]) [[(a_r_, .inl (g 0, n_r_, .inl r__9))]] [offS ad_58 tp_p_ hd_p_ tf_p_ cf_p_ g o_59] 2 [0, 1] rfl rfl (by decide) hP hD
                            have hPc : va_P (dC, dI) vwCl (offS ad_58 tp_p_ hd_p_ tf_p_ cf_p_ g o_59) H_57 := P_r hPs
                            have hDc : va_D A (offS ad_58 tp_p_ hd_p_ tf_p_ cf_p_ g o_59) := D_r hDs
                            have hFc : ∀ q, va_A (offS ad_58 tp_p_ hd_p_ tf_p_ cf_p_ g o_59) H_57.size q → A q := A_all hDc hA hS.1
                            refine va_calli (vx_runSW (As := [.ref t_p_, .int 5, .int 3, .int 2, .int 0]) (rest := []) ⟨hx, hb, hml, hown, hts⟩ (c_L_asks_5 l hlf dC dI g (tp_p_ := tp_p_) (hd_p_ := hd_p_) (tf_p_ := tf_p_) (cf_p_ := cf_p_) (htf_p_ := htf_p_) (hcf_p_ := hcf_p_) (a_p_ := ad_58) (t_p_ := t_p_) (h_p_ := had_58) (o_p_ := o_59) (a_ := 3) (b_ := 2) (c_ := 0) (hw := hw) (sz := H_57.size)) (vx_cwSW 5 hts (gqS aw_4_45 aw_4_46 aw_1_0 aw_4_47) rfl rfl rfl (by decide +kernel) ⟨Nat.le_of_ble_eq_true rfl, Nat.le_of_ble_eq_true rfl⟩) ⟨PG_blind, PG_call hK hG hS hPc hDc hFc⟩ rfl rfl hl.1 rfl (lv_room (Nat.le_of_ble_eq_true rfl)) dL_areRefused_241 ⟨by rw [hrc]; omega, by rw [hrs]; omega⟩) hS (fun q _ h => hFc q h) hFc (fun r_61 u_61 t_61 H_61 L_61 ht_61 hvm_61 hw_61 hB_61 hz_61 hk_61 hS => ?_)
                            obtain ⟨ad_62, o_63, u_61⟩ := u_61
                            obtain ⟨hw, had_62⟩ := hw_61
                            rw [ht_61] at hB_61
                            obtain ⟨hP1, hD1⟩ := hB_61
                            obtain ⟨hP, hD⟩ := join_r hPs hDs hk_61 hFc hP1 hD1
                            obtain ⟨hP, hD⟩ := seg_join [[(a_r_, .inl (g 0, n_r_, .inl r__9))]] [offS ad_62 tp_p_ hd_p_ tf_p_ cf_p_ g o_63] [[(a_r_, .inl (g 0, n_r_, .inl r__9))], offS ad_62 tp_p_ hd_p_ tf_p_ cf_p_ g o_63] 2 [0, 1] rfl rfl (by decide) hP hD
                            have hP : va_P (dC, dI) vwCl ([(a_r_, .inl (g 0, n_r_, .inl r__9))] ++ (offS ad_62 tp_p_ hd_p_ tf_p_ cf_p_ g o_63)) H_61 := hP
                            have hD : va_D A ([(a_r_, .inl (g 0, n_r_, .inl r__9))] ++ (offS ad_62 tp_p_ hd_p_ tf_p_ cf_p_ g o_63)) := hD
                            refine W.widen (k := 48) (n := 288) (by omega) (by omega) ?_
                            refine lv_sipush (v := (-20003)) hx hb dL_areRefused_244 (by decide) ?_
                            refine lv_icmp_ne (tgt := 385) hx hb dL_areRefused_247 (by decide) (fun c_64 => ?_) (fun c_64 => ?_)
                            · have hw := hw.2 c_64
                              refine lv_iconst (v := 0) hx hb dL_areRefused_385 (by decide) ?_
                              refine W.widen (k := 591) (n := 3546) (by omega) (by omega) ?_
                              subst hQM
                              exact W.zret (v := 0) hx hb hr rfl (fun t ht hW => ⟨⟨_, (r__9, ad_62, o_63, ()), rfl, ⟨false, rfl, ⟨hw, had_62⟩⟩, ⟨P_at ht hP, hD⟩⟩, hS.F ht⟩) hS.2.2 dL_areRefused_386
                            · have hw := hw.1 c_64
                              refine lv_aload_n hx hb dL_areRefused_250 rfl (lv_at hl 3 rfl) ?_
                              refine lv_iconst (v := 5) hx hb dL_areRefused_251 (by decide) ?_
                              refine lv_iconst (v := 0) hx hb dL_areRefused_252 (by decide) ?_
                              refine lv_bipush (v := 7) hx hb dL_areRefused_253 (by decide) ?_
                              refine lv_iconst (v := 0) hx hb dL_areRefused_255 (by decide) ?_
                              obtain ⟨hPs, hDs⟩ := seg_call (segs := [[(a_r_, .inl (g 0, n_r_, .inl r__9))], offS ad_62 tp_p_ hd_p_ tf_p_ cf_p_ g o_63]) [[(a_r_, .inl (g 0, n_r_, .inl r__9))]] [offS ad_62 tp_p_ hd_p_ tf_p_ cf_p_ g o_63] 2 [0, 1] rfl rfl (by decide) hP hD
                              have hPc : va_P (dC, dI) vwCl (offS ad_62 tp_p_ hd_p_ tf_p_ cf_p_ g o_63) H_61 := P_r hPs
                              have hDc : va_D A (offS ad_62 tp_p_ hd_p_ tf_p_ cf_p_ g o_63) := D_r hDs
                              have hFc : ∀ q, va_A (offS ad_62 tp_p_ hd_p_ tf_p_ cf_p_ g o_63) H_61.size q → A q := A_all hDc hA hS.1
                              refine va_calli (vx_runSW (As := [.ref t_p_, .int 5, .int 0, .int 7, .int 0]) (rest := []) ⟨hx, hb, hml, hown, hts⟩ (c_L_asks_5 l hlf dC dI g (tp_p_ := tp_p_) (hd_p_ := hd_p_) (tf_p_ := tf_p_) (cf_p_ := cf_p_) (htf_p_ := htf_p_) (hcf_p_ := hcf_p_) (a_p_ := ad_62) (t_p_ := t_p_) (h_p_ := had_62) (o_p_ := o_63) (a_ := 0) (b_ := 7) (c_ := 0) (hw := hw) (sz := H_61.size)) (vx_cwSW 5 hts (gqS aw_4_45 aw_4_46 aw_1_0 aw_4_47) rfl rfl rfl (by decide +kernel) ⟨Nat.le_of_ble_eq_true rfl, Nat.le_of_ble_eq_true rfl⟩) ⟨PG_blind, PG_call hK hG hS hPc hDc hFc⟩ rfl rfl hl.1 rfl (lv_room (Nat.le_of_ble_eq_true rfl)) dL_areRefused_256 ⟨by rw [hrc]; omega, by rw [hrs]; omega⟩) hS (fun q _ h => hFc q h) hFc (fun r_65 u_65 t_65 H_65 L_65 ht_65 hvm_65 hw_65 hB_65 hz_65 hk_65 hS => ?_)
                              obtain ⟨ad_66, o_67, u_65⟩ := u_65
                              obtain ⟨hw, had_66⟩ := hw_65
                              rw [ht_65] at hB_65
                              obtain ⟨hP1, hD1⟩ := hB_65
                              obtain ⟨hP, hD⟩ := join_r hPs hDs hk_65 hFc hP1 hD1
                              obtain ⟨hP, hD⟩ := seg_join [[(a_r_, .inl (g 0, n_r_, .inl r__9))]] [offS ad_66 tp_p_ hd_p_ tf_p_ cf_p_ g o_67] [[(a_r_, .inl (g 0, n_r_, .inl r__9))], offS ad_66 tp_p_ hd_p_ tf_p_ cf_p_ g o_67] 2 [0, 1] rfl rfl (by decide) hP hD
                              have hP : va_P (dC, dI) vwCl ([(a_r_, .inl (g 0, n_r_, .inl r__9))] ++ (offS ad_66 tp_p_ hd_p_ tf_p_ cf_p_ g o_67)) H_65 := hP
                              have hD : va_D A ([(a_r_, .inl (g 0, n_r_, .inl r__9))] ++ (offS ad_66 tp_p_ hd_p_ tf_p_ cf_p_ g o_67)) := hD
                              refine W.widen (k := 50) (n := 300) (by omega) (by omega) ?_
                              refine lv_sipush (v := (-20003)) hx hb dL_areRefused_259 (by decide) ?_
                              refine lv_icmp_ne (tgt := 385) hx hb dL_areRefused_262 (by decide) (fun c_68 => ?_) (fun c_68 => ?_)
                              · have hw := hw.2 c_68
                                refine lv_iconst (v := 0) hx hb dL_areRefused_385 (by decide) ?_
                                refine W.widen (k := 591) (n := 3546) (by omega) (by omega) ?_
                                subst hQM
                                exact W.zret (v := 0) hx hb hr rfl (fun t ht hW => ⟨⟨_, (r__9, ad_66, o_67, ()), rfl, ⟨false, rfl, ⟨hw, had_66⟩⟩, ⟨P_at ht hP, hD⟩⟩, hS.F ht⟩) hS.2.2 dL_areRefused_386
                              · have hw := hw.1 c_68
                                refine lv_aload_n hx hb dL_areRefused_265 rfl (lv_at hl 3 rfl) ?_
                                refine lv_bipush (v := 7) hx hb dL_areRefused_266 (by decide) ?_
                                refine lv_iload hx hb dL_areRefused_268 (lv_at hl 0 rfl) ?_
                                refine lv_iconst (v := 4) hx hb dL_areRefused_270 (by decide) ?_
                                refine lv_iconst (v := 0) hx hb dL_areRefused_271 (by decide) ?_
                                obtain ⟨hPs, hDs⟩ := seg_call (segs := [[(a_r_, .inl (g 0, n_r_, .inl r__9))], offS ad_66 tp_p_ hd_p_ tf_p_ cf_p_ g o_67]) [[(a_r_, .inl (g 0, n_r_, .inl r__9))]] [offS ad_66 tp_p_ hd_p_ tf_p_ cf_p_ g o_67] 2 [0, 1] rfl rfl (by decide) hP hD
                                have hPc : va_P (dC, dI) vwCl (offS ad_66 tp_p_ hd_p_ tf_p_ cf_p_ g o_67) H_65 := P_r hPs
                                have hDc : va_D A (offS ad_66 tp_p_ hd_p_ tf_p_ cf_p_ g o_67) := D_r hDs
                                have hFc : ∀ q, va_A (offS ad_66 tp_p_ hd_p_ tf_p_ cf_p_ g o_67) H_65.size q → A q := A_all hDc hA hS.1
                                refine va_calli (vx_runSW (As := [.ref t_p_, .int 7, .int r_8, .int 4, .int 0]) (rest := []) ⟨hx, hb, hml, hown, hts⟩ (c_L_asks_7 l hlf dC dI g (tp_p_ := tp_p_) (hd_p_ := hd_p_) (tf_p_ := tf_p_) (cf_p_ := cf_p_) (htf_p_ := htf_p_) (hcf_p_ := hcf_p_) (a_p_ := ad_66) (t_p_ := t_p_) (h_p_ := had_66) (o_p_ := o_67) (a_ := r_8) (b_ := 4) (c_ := 0) (hw := hw) (sz := H_65.size)) (vx_cwSW 5 hts (gqS aw_4_45 aw_4_46 aw_1_0 aw_4_47) rfl rfl rfl (by decide +kernel) ⟨Nat.le_of_ble_eq_true rfl, Nat.le_of_ble_eq_true rfl⟩) ⟨PG_blind, PG_call hK hG hS hPc hDc hFc⟩ rfl rfl hl.1 rfl (lv_room (Nat.le_of_ble_eq_true rfl)) dL_areRefused_272 ⟨by rw [hrc]; omega, by rw [hrs]; omega⟩) hS (fun q _ h => hFc q h) hFc (fun r_69 u_69 t_69 H_69 L_69 ht_69 hvm_69 hw_69 hB_69 hz_69 hk_69 hS => ?_)
                                obtain ⟨ad_70, o_71, u_69⟩ := u_69
                                obtain ⟨hw, had_70⟩ := hw_69
                                rw [ht_69] at hB_69
                                obtain ⟨hP1, hD1⟩ := hB_69
                                obtain ⟨hP, hD⟩ := join_r hPs hDs hk_69 hFc hP1 hD1
                                obtain ⟨hP, hD⟩ := seg_join [[(a_r_, .inl (g 0, n_r_, .inl r__9))]] [offS ad_70 tp_p_ hd_p_ tf_p_ cf_p_ g o_71] [[(a_r_, .inl (g 0, n_r_, .inl r__9))], offS ad_70 tp_p_ hd_p_ tf_p_ cf_p_ g o_71] 2 [0, 1] rfl rfl (by decide) hP hD
                                have hP : va_P (dC, dI) vwCl ([(a_r_, .inl (g 0, n_r_, .inl r__9))] ++ (offS ad_70 tp_p_ hd_p_ tf_p_ cf_p_ g o_71)) H_69 := hP
                                have hD : va_D A ([(a_r_, .inl (g 0, n_r_, .inl r__9))] ++ (offS ad_70 tp_p_ hd_p_ tf_p_ cf_p_ g o_71)) := hD
                                refine W.widen (k := 52) (n := 312) (by omega) (by omega) ?_
                                refine lv_sipush (v := (-20003)) hx hb dL_areRefused_275 (by decide) ?_
                                refine lv_icmp_ne (tgt := 385) hx hb dL_areRefused_278 (by decide) (fun c_72 => ?_) (fun c_72 => ?_)
                                · have hw := hw.2 c_72
                                  refine lv_iconst (v := 0) hx hb dL_areRefused_385 (by decide) ?_
                                  refine W.widen (k := 591) (n := 3546) (by omega) (by omega) ?_
                                  subst hQM
                                  exact W.zret (v := 0) hx hb hr rfl (fun t ht hW => ⟨⟨_, (r__9, ad_70, o_71, ()), rfl, ⟨false, rfl, ⟨hw, had_70⟩⟩, ⟨P_at ht hP, hD⟩⟩, hS.F ht⟩) hS.2.2 dL_areRefused_386
                                · have hw := hw.1 c_72
                                  refine lv_aload_n hx hb dL_areRefused_281 rfl (lv_at hl 3 rfl) ?_
                                  refine lv_bipush (v := 7) hx hb dL_areRefused_282 (by decide) ?_
                                  refine lv_iload_n hx hb dL_areRefused_284 rfl (lv_at hl 2 rfl) ?_
                                  refine lv_iconst (v := 4) hx hb dL_areRefused_285 (by decide) ?_
                                  refine lv_iconst (v := 0) hx hb dL_areRefused_286 (by decide) ?_
                                  obtain ⟨hPs, hDs⟩ := seg_call (segs := [[(a_r_, .inl (g 0, n_r_, .inl r__9))], offS ad_70 tp_p_ hd_p_ tf_p_ cf_p_ g o_71]) [[(a_r_, .inl (g 0, n_r_, .inl r__9))]] [offS ad_70 tp_p_ hd_p_ tf_p_ cf_p_ g o_71] 2 [0, 1] rfl rfl (by decide) hP hD
                                  have hPc : va_P (dC, dI) vwCl (offS ad_70 tp_p_ hd_p_ tf_p_ cf_p_ g o_71) H_69 := P_r hPs
                                  have hDc : va_D A (offS ad_70 tp_p_ hd_p_ tf_p_ cf_p_ g o_71) := D_r hDs
                                  have hFc : ∀ q, va_A (offS ad_70 tp_p_ hd_p_ tf_p_ cf_p_ g o_71) H_69.size q → A q := A_all hDc hA hS.1
                                  refine va_calli (vx_runSW (As := [.ref t_p_, .int 7, .int sk0_3, .int 4, .int 0]) (rest := []) ⟨hx, hb, hml, hown, hts⟩ (c_L_asks_7 l hlf dC dI g (tp_p_ := tp_p_) (hd_p_ := hd_p_) (tf_p_ := tf_p_) (cf_p_ := cf_p_) (htf_p_ := htf_p_) (hcf_p_ := hcf_p_) (a_p_ := ad_70) (t_p_ := t_p_) (h_p_ := had_70) (o_p_ := o_71) (a_ := sk0_3) (b_ := 4) (c_ := 0) (hw := hw) (sz := H_69.size)) (vx_cwSW 5 hts (gqS aw_4_45 aw_4_46 aw_1_0 aw_4_47) rfl rfl rfl (by decide +kernel) ⟨Nat.le_of_ble_eq_true rfl, Nat.le_of_ble_eq_true rfl⟩) ⟨PG_blind, PG_call hK hG hS hPc hDc hFc⟩ rfl rfl hl.1 rfl (lv_room (Nat.le_of_ble_eq_true rfl)) dL_areRefused_287 ⟨by rw [hrc]; omega, by rw [hrs]; omega⟩) hS (fun q _ h => hFc q h) hFc (fun r_73 u_73 t_73 H_73 L_73 ht_73 hvm_73 hw_73 hB_73 hz_73 hk_73 hS => ?_)
                                  obtain ⟨ad_74, o_75, u_73⟩ := u_73
                                  obtain ⟨hw, had_74⟩ := hw_73
                                  rw [ht_73] at hB_73
                                  obtain ⟨hP1, hD1⟩ := hB_73
                                  obtain ⟨hP, hD⟩ := join_r hPs hDs hk_73 hFc hP1 hD1
                                  obtain ⟨hP, hD⟩ := seg_join [[(a_r_, .inl (g 0, n_r_, .inl r__9))]] [offS ad_74 tp_p_ hd_p_ tf_p_ cf_p_ g o_75] [[(a_r_, .inl (g 0, n_r_, .inl r__9))], offS ad_74 tp_p_ hd_p_ tf_p_ cf_p_ g o_75] 2 [0, 1] rfl rfl (by decide) hP hD
                                  have hP : va_P (dC, dI) vwCl ([(a_r_, .inl (g 0, n_r_, .inl r__9))] ++ (offS ad_74 tp_p_ hd_p_ tf_p_ cf_p_ g o_75)) H_73 := hP
                                  have hD : va_D A ([(a_r_, .inl (g 0, n_r_, .inl r__9))] ++ (offS ad_74 tp_p_ hd_p_ tf_p_ cf_p_ g o_75)) := hD
                                  refine W.widen (k := 54) (n := 324) (by omega) (by omega) ?_
                                  refine lv_sipush (v := (-20001)) hx hb dL_areRefused_290 (by decide) ?_
                                  refine lv_icmp_ne (tgt := 385) hx hb dL_areRefused_293 (by decide) (fun c_76 => ?_) (fun c_76 => ?_)
                                  · have hw := hw.2 c_76
                                    refine lv_iconst (v := 0) hx hb dL_areRefused_385 (by decide) ?_
                                    refine W.widen (k := 591) (n := 3546) (by omega) (by omega) ?_
                                    subst hQM
                                    exact W.zret (v := 0) hx hb hr rfl (fun t ht hW => ⟨⟨_, (r__9, ad_74, o_75, ()), rfl, ⟨false, rfl, ⟨hw, had_74⟩⟩, ⟨P_at ht hP, hD⟩⟩, hS.F ht⟩) hS.2.2 dL_areRefused_386
                                  · have hw := hw.1 c_76
                                    refine lv_aload_n hx hb dL_areRefused_296 rfl (lv_at hl 3 rfl) ?_
                                    refine lv_bipush (v := 8) hx hb dL_areRefused_297 (by decide) ?_
                                    refine lv_iload_n hx hb dL_areRefused_299 rfl (lv_at hl 2 rfl) ?_
                                    refine lv_iload hx hb dL_areRefused_300 (lv_at hl 0 rfl) ?_
                                    refine lv_iconst (v := 0) hx hb dL_areRefused_302 (by decide) ?_
                                    obtain ⟨hPs, hDs⟩ := seg_call (segs := [[(a_r_, .inl (g 0, n_r_, .inl r__9))], offS ad_74 tp_p_ hd_p_ tf_p_ cf_p_ g o_75]) [[(a_r_, .inl (g 0, n_r_, .inl r__9))]] [offS ad_74 tp_p_ hd_p_ tf_p_ cf_p_ g o_75] 2 [0, 1] rfl rfl (by decide) hP hD
                                    have hPc : va_P (dC, dI) vwCl (offS ad_74 tp_p_ hd_p_ tf_p_ cf_p_ g o_75) H_73 := P_r hPs
                                    have hDc : va_D A (offS ad_74 tp_p_ hd_p_ tf_p_ cf_p_ g o_75) := D_r hDs
                                    have hFc : ∀ q, va_A (offS ad_74 tp_p_ hd_p_ tf_p_ cf_p_ g o_75) H_73.size q → A q := A_all hDc hA hS.1
                                    refine va_calli (vx_runSW (As := [.ref t_p_, .int 8, .int sk0_3, .int r_8, .int 0]) (rest := []) ⟨hx, hb, hml, hown, hts⟩ (c_L_asks_8 l hlf dC dI g (tp_p_ := tp_p_) (hd_p_ := hd_p_) (tf_p_ := tf_p_) (cf_p_ := cf_p_) (htf_p_ := htf_p_) (hcf_p_ := hcf_p_) (a_p_ := ad_74) (t_p_ := t_p_) (h_p_ := had_74) (o_p_ := o_75) (a_ := sk0_3) (b_ := r_8) (c_ := 0) (hw := hw) (sz := H_73.size)) (vx_cwSW 5 hts (gqS aw_4_45 aw_4_46 aw_1_0 aw_4_47) rfl rfl rfl (by decide +kernel) ⟨Nat.le_of_ble_eq_true rfl, Nat.le_of_ble_eq_true rfl⟩) ⟨PG_blind, PG_call hK hG hS hPc hDc hFc⟩ rfl rfl hl.1 rfl (lv_room (Nat.le_of_ble_eq_true rfl)) dL_areRefused_303 ⟨by rw [hrc]; omega, by rw [hrs]; omega⟩) hS (fun q _ h => hFc q h) hFc (fun r_77 u_77 t_77 H_77 L_77 ht_77 hvm_77 hw_77 hB_77 hz_77 hk_77 hS => ?_)
                                    obtain ⟨ad_78, o_79, u_77⟩ := u_77
                                    obtain ⟨hw, had_78⟩ := hw_77
                                    rw [ht_77] at hB_77
                                    obtain ⟨hP1, hD1⟩ := hB_77
                                    obtain ⟨hP, hD⟩ := join_r hPs hDs hk_77 hFc hP1 hD1
                                    obtain ⟨hP, hD⟩ := seg_join [[(a_r_, .inl (g 0, n_r_, .inl r__9))]] [offS ad_78 tp_p_ hd_p_ tf_p_ cf_p_ g o_79] [[(a_r_, .inl (g 0, n_r_, .inl r__9))], offS ad_78 tp_p_ hd_p_ tf_p_ cf_p_ g o_79] 2 [0, 1] rfl rfl (by decide) hP hD
                                    have hP : va_P (dC, dI) vwCl ([(a_r_, .inl (g 0, n_r_, .inl r__9))] ++ (offS ad_78 tp_p_ hd_p_ tf_p_ cf_p_ g o_79)) H_77 := hP
                                    have hD : va_D A ([(a_r_, .inl (g 0, n_r_, .inl r__9))] ++ (offS ad_78 tp_p_ hd_p_ tf_p_ cf_p_ g o_79)) := hD
                                    refine W.widen (k := 56) (n := 336) (by omega) (by omega) ?_
                                    refine lv_sipush (v := (-20001)) hx hb dL_areRefused_306 (by decide) ?_
                                    refine lv_icmp_ne (tgt := 385) hx hb dL_areRefused_309 (by decide) (fun c_80 => ?_) (fun c_80 => ?_)
                                    · have hw := hw.2 c_80
                                      refine lv_iconst (v := 0) hx hb dL_areRefused_385 (by decide) ?_
                                      refine W.widen (k := 591) (n := 3546) (by omega) (by omega) ?_
                                      subst hQM
                                      exact W.zret (v := 0) hx hb hr rfl (fun t ht hW => ⟨⟨_, (r__9, ad_78, o_79, ()), rfl, ⟨false, rfl, ⟨hw, had_78⟩⟩, ⟨P_at ht hP, hD⟩⟩, hS.F ht⟩) hS.2.2 dL_areRefused_386
                                    · have hw := hw.1 c_80
                                      refine lv_aload_n hx hb dL_areRefused_312 rfl (lv_at hl 3 rfl) ?_
                                      refine lv_bipush (v := 9) hx hb dL_areRefused_313 (by decide) ?_
                                      refine lv_iconst (v := 0) hx hb dL_areRefused_315 (by decide) ?_
                                      refine lv_iconst (v := 0) hx hb dL_areRefused_316 (by decide) ?_
                                      refine lv_iconst (v := 0) hx hb dL_areRefused_317 (by decide) ?_
                                      obtain ⟨hPs, hDs⟩ := seg_call (segs := [[(a_r_, .inl (g 0, n_r_, .inl r__9))], offS ad_78 tp_p_ hd_p_ tf_p_ cf_p_ g o_79]) [[(a_r_, .inl (g 0, n_r_, .inl r__9))]] [offS ad_78 tp_p_ hd_p_ tf_p_ cf_p_ g o_79] 2 [0, 1] rfl rfl (by decide) hP hD
                                      have hPc : va_P (dC, dI) vwCl (offS ad_78 tp_p_ hd_p_ tf_p_ cf_p_ g o_79) H_77 := P_r hPs
                                      have hDc : va_D A (offS ad_78 tp_p_ hd_p_ tf_p_ cf_p_ g o_79) := D_r hDs
                                      have hFc : ∀ q, va_A (offS ad_78 tp_p_ hd_p_ tf_p_ cf_p_ g o_79) H_77.size q → A q := A_all hDc hA hS.1
                                      refine va_calli (vx_runSW (As := [.ref t_p_, .int 9, .int 0, .int 0, .int 0]) (rest := []) ⟨hx, hb, hml, hown, hts⟩ (c_L_asks_9 l hlf dC dI g (tp_p_ := tp_p_) (hd_p_ := hd_p_) (tf_p_ := tf_p_) (cf_p_ := cf_p_) (htf_p_ := htf_p_) (hcf_p_ := hcf_p_) (a_p_ := ad_78) (t_p_ := t_p_) (h_p_ := had_78) (o_p_ := o_79) (a_ := 0) (b_ := 0) (c_ := 0) (hw := hw) (sz := H_77.size)) (vx_cwSW 5 hts (gqS aw_4_45 aw_4_46 aw_1_0 aw_4_47) rfl rfl rfl (by decide +kernel) ⟨Nat.le_of_ble_eq_true rfl, Nat.le_of_ble_eq_true rfl⟩) ⟨PG_blind, PG_call hK hG hS hPc hDc hFc⟩ rfl rfl hl.1 rfl (lv_room (Nat.le_of_ble_eq_true rfl)) dL_areRefused_318 ⟨by rw [hrc]; omega, by rw [hrs]; omega⟩) hS (fun q _ h => hFc q h) hFc (fun r_81 u_81 t_81 H_81 L_81 ht_81 hvm_81 hw_81 hB_81 hz_81 hk_81 hS => ?_)
                                      obtain ⟨ad_82, o_83, u_81⟩ := u_81
                                      obtain ⟨hw, had_82⟩ := hw_81
                                      rw [ht_81] at hB_81
                                      obtain ⟨hP1, hD1⟩ := hB_81
                                      obtain ⟨hP, hD⟩ := join_r hPs hDs hk_81 hFc hP1 hD1
                                      obtain ⟨hP, hD⟩ := seg_join [[(a_r_, .inl (g 0, n_r_, .inl r__9))]] [offS ad_82 tp_p_ hd_p_ tf_p_ cf_p_ g o_83] [[(a_r_, .inl (g 0, n_r_, .inl r__9))], offS ad_82 tp_p_ hd_p_ tf_p_ cf_p_ g o_83] 2 [0, 1] rfl rfl (by decide) hP hD
                                      have hP : va_P (dC, dI) vwCl ([(a_r_, .inl (g 0, n_r_, .inl r__9))] ++ (offS ad_82 tp_p_ hd_p_ tf_p_ cf_p_ g o_83)) H_81 := hP
                                      have hD : va_D A ([(a_r_, .inl (g 0, n_r_, .inl r__9))] ++ (offS ad_82 tp_p_ hd_p_ tf_p_ cf_p_ g o_83)) := hD
                                      refine W.widen (k := 59) (n := 354) (by omega) (by omega) ?_
                                      refine lv_sipush (v := (-20003)) hx hb dL_areRefused_321 (by decide) ?_
                                      refine lv_icmp_ne (tgt := 385) hx hb dL_areRefused_324 (by decide) (fun c_84 => ?_) (fun c_84 => ?_)
                                      · have hw := hw.2 c_84
                                        refine lv_iconst (v := 0) hx hb dL_areRefused_385 (by decide) ?_
                                        refine W.widen (k := 591) (n := 3546) (by omega) (by omega) ?_
                                        subst hQM
                                        exact W.zret (v := 0) hx hb hr rfl (fun t ht hW => ⟨⟨_, (r__9, ad_82, o_83, ()), rfl, ⟨false, rfl, ⟨hw, had_82⟩⟩, ⟨P_at ht hP, hD⟩⟩, hS.F ht⟩) hS.2.2 dL_areRefused_386
                                      · have hw := hw.1 c_84
                                        refine lv_aload_n hx hb dL_areRefused_327 rfl (lv_at hl 3 rfl) ?_
                                        refine lv_bipush (v := 11) hx hb dL_areRefused_328 (by decide) ?_
                                        refine lv_bipush (v := 8) hx hb dL_areRefused_330 (by decide) ?_
                                        refine lv_iconst (v := 0) hx hb dL_areRefused_332 (by decide) ?_
                                        refine lv_iconst (v := 0) hx hb dL_areRefused_333 (by decide) ?_
                                        obtain ⟨hPs, hDs⟩ := seg_call (segs := [[(a_r_, .inl (g 0, n_r_, .inl r__9))], offS ad_82 tp_p_ hd_p_ tf_p_ cf_p_ g o_83]) [[(a_r_, .inl (g 0, n_r_, .inl r__9))]] [offS ad_82 tp_p_ hd_p_ tf_p_ cf_p_ g o_83] 2 [0, 1] rfl rfl (by decide) hP hD
                                        have hPc : va_P (dC, dI) vwCl (offS ad_82 tp_p_ hd_p_ tf_p_ cf_p_ g o_83) H_81 := P_r hPs
                                        have hDc : va_D A (offS ad_82 tp_p_ hd_p_ tf_p_ cf_p_ g o_83) := D_r hDs
                                        have hFc : ∀ q, va_A (offS ad_82 tp_p_ hd_p_ tf_p_ cf_p_ g o_83) H_81.size q → A q := A_all hDc hA hS.1
                                        refine va_calli (vx_runSW (As := [.ref t_p_, .int 11, .int 8, .int 0, .int 0]) (rest := []) ⟨hx, hb, hml, hown, hts⟩ (c_L_asks_11 l hlf dC dI g (tp_p_ := tp_p_) (hd_p_ := hd_p_) (tf_p_ := tf_p_) (cf_p_ := cf_p_) (htf_p_ := htf_p_) (hcf_p_ := hcf_p_) (a_p_ := ad_82) (t_p_ := t_p_) (h_p_ := had_82) (o_p_ := o_83) (a_ := 8) (b_ := 0) (c_ := 0) (hw := hw) (sz := H_81.size)) (vx_cwSW 5 hts (gqS aw_4_45 aw_4_46 aw_1_0 aw_4_47) rfl rfl rfl (by decide +kernel) ⟨Nat.le_of_ble_eq_true rfl, Nat.le_of_ble_eq_true rfl⟩) ⟨PG_blind, PG_call hK hG hS hPc hDc hFc⟩ rfl rfl hl.1 rfl (lv_room (Nat.le_of_ble_eq_true rfl)) dL_areRefused_334 ⟨by rw [hrc]; omega, by rw [hrs]; omega⟩) hS (fun q _ h => hFc q h) hFc (fun r_85 u_85 t_85 H_85 L_85 ht_85 hvm_85 hw_85 hB_85 hz_85 hk_85 hS => ?_)
                                        obtain ⟨ad_86, o_87, u_85⟩ := u_85
                                        obtain ⟨hw, had_86⟩ := hw_85
                                        rw [ht_85] at hB_85
                                        obtain ⟨hP1, hD1⟩ := hB_85
                                        obtain ⟨hP, hD⟩ := join_r hPs hDs hk_85 hFc hP1 hD1
                                        obtain ⟨hP, hD⟩ := seg_join [[(a_r_, .inl (g 0, n_r_, .inl r__9))]] [offS ad_86 tp_p_ hd_p_ tf_p_ cf_p_ g o_87] [[(a_r_, .inl (g 0, n_r_, .inl r__9))], offS ad_86 tp_p_ hd_p_ tf_p_ cf_p_ g o_87] 2 [0, 1] rfl rfl (by decide) hP hD
                                        have hP : va_P (dC, dI) vwCl ([(a_r_, .inl (g 0, n_r_, .inl r__9))] ++ (offS ad_86 tp_p_ hd_p_ tf_p_ cf_p_ g o_87)) H_85 := hP
                                        have hD : va_D A ([(a_r_, .inl (g 0, n_r_, .inl r__9))] ++ (offS ad_86 tp_p_ hd_p_ tf_p_ cf_p_ g o_87)) := hD
                                        refine W.widen (k := 61) (n := 366) (by omega) (by omega) ?_
                                        refine lv_sipush (v := (-20003)) hx hb dL_areRefused_337 (by decide) ?_
                                        refine lv_icmp_ne (tgt := 385) hx hb dL_areRefused_340 (by decide) (fun c_88 => ?_) (fun c_88 => ?_)
                                        · have hw := hw.2 c_88
                                          refine lv_iconst (v := 0) hx hb dL_areRefused_385 (by decide) ?_
                                          refine W.widen (k := 591) (n := 3546) (by omega) (by omega) ?_
                                          subst hQM
                                          exact W.zret (v := 0) hx hb hr rfl (fun t ht hW => ⟨⟨_, (r__9, ad_86, o_87, ()), rfl, ⟨false, rfl, ⟨hw, had_86⟩⟩, ⟨P_at ht hP, hD⟩⟩, hS.F ht⟩) hS.2.2 dL_areRefused_386
                                        · have hw := hw.1 c_88
                                          refine lv_aload_n hx hb dL_areRefused_343 rfl (lv_at hl 3 rfl) ?_
                                          refine lv_bipush (v := 12) hx hb dL_areRefused_344 (by decide) ?_
                                          refine lv_iload hx hb dL_areRefused_346 (lv_at hl 0 rfl) ?_
                                          refine lv_iload hx hb dL_areRefused_348 (lv_at hl 0 rfl) ?_
                                          refine lv_iload_n hx hb dL_areRefused_350 rfl (lv_at hl 2 rfl) ?_
                                          obtain ⟨hPs, hDs⟩ := seg_call (segs := [[(a_r_, .inl (g 0, n_r_, .inl r__9))], offS ad_86 tp_p_ hd_p_ tf_p_ cf_p_ g o_87]) [[(a_r_, .inl (g 0, n_r_, .inl r__9))]] [offS ad_86 tp_p_ hd_p_ tf_p_ cf_p_ g o_87] 2 [0, 1] rfl rfl (by decide) hP hD
                                          have hPc : va_P (dC, dI) vwCl (offS ad_86 tp_p_ hd_p_ tf_p_ cf_p_ g o_87) H_85 := P_r hPs
                                          have hDc : va_D A (offS ad_86 tp_p_ hd_p_ tf_p_ cf_p_ g o_87) := D_r hDs
                                          have hFc : ∀ q, va_A (offS ad_86 tp_p_ hd_p_ tf_p_ cf_p_ g o_87) H_85.size q → A q := A_all hDc hA hS.1
                                          refine va_calli (vx_runSW (As := [.ref t_p_, .int 12, .int r_8, .int r_8, .int sk0_3]) (rest := []) ⟨hx, hb, hml, hown, hts⟩ (c_L_asks_12 l hlf dC dI g (tp_p_ := tp_p_) (hd_p_ := hd_p_) (tf_p_ := tf_p_) (cf_p_ := cf_p_) (htf_p_ := htf_p_) (hcf_p_ := hcf_p_) (a_p_ := ad_86) (t_p_ := t_p_) (h_p_ := had_86) (o_p_ := o_87) (a_ := r_8) (b_ := r_8) (c_ := sk0_3) (hw := hw) (sz := H_85.size)) (vx_cwSW 5 hts (gqS aw_4_45 aw_4_46 aw_1_0 aw_4_47) rfl rfl rfl (by decide +kernel) ⟨Nat.le_of_ble_eq_true rfl, Nat.le_of_ble_eq_true rfl⟩) ⟨PG_blind, PG_call hK hG hS hPc hDc hFc⟩ rfl rfl hl.1 rfl (lv_room (Nat.le_of_ble_eq_true rfl)) dL_areRefused_351 ⟨by rw [hrc]; omega, by rw [hrs]; omega⟩) hS (fun q _ h => hFc q h) hFc (fun r_89 u_89 t_89 H_89 L_89 ht_89 hvm_89 hw_89 hB_89 hz_89 hk_89 hS => ?_)
                                          obtain ⟨ad_90, o_91, u_89⟩ := u_89
                                          obtain ⟨hw, had_90⟩ := hw_89
                                          rw [ht_89] at hB_89
                                          obtain ⟨hP1, hD1⟩ := hB_89
                                          obtain ⟨hP, hD⟩ := join_r hPs hDs hk_89 hFc hP1 hD1
                                          obtain ⟨hP, hD⟩ := seg_join [[(a_r_, .inl (g 0, n_r_, .inl r__9))]] [offS ad_90 tp_p_ hd_p_ tf_p_ cf_p_ g o_91] [[(a_r_, .inl (g 0, n_r_, .inl r__9))], offS ad_90 tp_p_ hd_p_ tf_p_ cf_p_ g o_91] 2 [0, 1] rfl rfl (by decide) hP hD
                                          have hP : va_P (dC, dI) vwCl ([(a_r_, .inl (g 0, n_r_, .inl r__9))] ++ (offS ad_90 tp_p_ hd_p_ tf_p_ cf_p_ g o_91)) H_89 := hP
                                          have hD : va_D A ([(a_r_, .inl (g 0, n_r_, .inl r__9))] ++ (offS ad_90 tp_p_ hd_p_ tf_p_ cf_p_ g o_91)) := hD
                                          refine W.widen (k := 66) (n := 396) (by omega) (by omega) ?_
                                          refine lv_sipush (v := (-20001)) hx hb dL_areRefused_354 (by decide) ?_
                                          refine lv_icmp_ne (tgt := 385) hx hb dL_areRefused_357 (by decide) (fun c_92 => ?_) (fun c_92 => ?_)
                                          · have hw := hw.2 c_92
                                            refine lv_iconst (v := 0) hx hb dL_areRefused_385 (by decide) ?_
                                            refine W.widen (k := 591) (n := 3546) (by omega) (by omega) ?_
                                            subst hQM
                                            exact W.zret (v := 0) hx hb hr rfl (fun t ht hW => ⟨⟨_, (r__9, ad_90, o_91, ()), rfl, ⟨false, rfl, ⟨hw, had_90⟩⟩, ⟨P_at ht hP, hD⟩⟩, hS.F ht⟩) hS.2.2 dL_areRefused_386
                                          · have hw := hw.1 c_92
                                            refine lv_aload_n hx hb dL_areRefused_360 rfl (lv_at hl 3 rfl) ?_
                                            refine lv_bipush (v := 18) hx hb dL_areRefused_361 (by decide) ?_
                                            refine lv_iload hx hb dL_areRefused_363 (lv_at hl 0 rfl) ?_
                                            refine lv_iload hx hb dL_areRefused_365 (lv_at hl 0 rfl) ?_
                                            refine lv_iconst (v := 3) hx hb dL_areRefused_367 (by decide) ?_
                                            obtain ⟨hPs, hDs⟩ := seg_call (segs := [[(a_r_, .inl (g 0, n_r_, .inl r__9))], offS ad_90 tp_p_ hd_p_ tf_p_ cf_p_ g o_91]) [[(a_r_, .inl (g 0, n_r_, .inl r__9))]] [offS ad_90 tp_p_ hd_p_ tf_p_ cf_p_ g o_91] 2 [0, 1] rfl rfl (by decide) hP hD
                                            have hPc : va_P (dC, dI) vwCl (offS ad_90 tp_p_ hd_p_ tf_p_ cf_p_ g o_91) H_89 := P_r hPs
                                            have hDc : va_D A (offS ad_90 tp_p_ hd_p_ tf_p_ cf_p_ g o_91) := D_r hDs
                                            have hFc : ∀ q, va_A (offS ad_90 tp_p_ hd_p_ tf_p_ cf_p_ g o_91) H_89.size q → A q := A_all hDc hA hS.1
                                            refine va_calli (vx_runSW (As := [.ref t_p_, .int 18, .int r_8, .int r_8, .int 3]) (rest := []) ⟨hx, hb, hml, hown, hts⟩ (c_L_asks_18 l hlf dC dI g (tp_p_ := tp_p_) (hd_p_ := hd_p_) (tf_p_ := tf_p_) (cf_p_ := cf_p_) (htf_p_ := htf_p_) (hcf_p_ := hcf_p_) (a_p_ := ad_90) (t_p_ := t_p_) (h_p_ := had_90) (o_p_ := o_91) (a_ := r_8) (b_ := r_8) (c_ := 3) (hw := hw) (sz := H_89.size)) (vx_cwSW 5 hts (gqS aw_4_45 aw_4_46 aw_1_0 aw_4_47) rfl rfl rfl (by decide +kernel) ⟨Nat.le_of_ble_eq_true rfl, Nat.le_of_ble_eq_true rfl⟩) ⟨PG_blind, PG_call hK hG hS hPc hDc hFc⟩ rfl rfl hl.1 rfl (lv_room (Nat.le_of_ble_eq_true rfl)) dL_areRefused_368 ⟨by rw [hrc]; omega, by rw [hrs]; omega⟩) hS (fun q _ h => hFc q h) hFc (fun r_93 u_93 t_93 H_93 L_93 ht_93 hvm_93 hw_93 hB_93 hz_93 hk_93 hS => ?_)
                                            obtain ⟨ad_94, o_95, u_93⟩ := u_93
                                            obtain ⟨hw, had_94⟩ := hw_93
                                            rw [ht_93] at hB_93
                                            obtain ⟨hP1, hD1⟩ := hB_93
                                            obtain ⟨hP, hD⟩ := join_r hPs hDs hk_93 hFc hP1 hD1
                                            obtain ⟨hP, hD⟩ := seg_join [[(a_r_, .inl (g 0, n_r_, .inl r__9))]] [offS ad_94 tp_p_ hd_p_ tf_p_ cf_p_ g o_95] [[(a_r_, .inl (g 0, n_r_, .inl r__9))], offS ad_94 tp_p_ hd_p_ tf_p_ cf_p_ g o_95] 2 [0, 1] rfl rfl (by decide) hP hD
                                            have hP : va_P (dC, dI) vwCl ([(a_r_, .inl (g 0, n_r_, .inl r__9))] ++ (offS ad_94 tp_p_ hd_p_ tf_p_ cf_p_ g o_95)) H_93 := hP
                                            have hD : va_D A ([(a_r_, .inl (g 0, n_r_, .inl r__9))] ++ (offS ad_94 tp_p_ hd_p_ tf_p_ cf_p_ g o_95)) := hD
                                            refine W.widen (k := 71) (n := 426) (by omega) (by omega) ?_
                                            refine lv_sipush (v := (-20003)) hx hb dL_areRefused_371 (by decide) ?_
                                            refine lv_icmp_ne (tgt := 385) hx hb dL_areRefused_374 (by decide) (fun c_96 => ?_) (fun c_96 => ?_)
                                            · have hw := hw.2 c_96
                                              refine lv_iconst (v := 0) hx hb dL_areRefused_385 (by decide) ?_
                                              refine W.widen (k := 591) (n := 3546) (by omega) (by omega) ?_
                                              subst hQM
                                              exact W.zret (v := 0) hx hb hr rfl (fun t ht hW => ⟨⟨_, (r__9, ad_94, o_95, ()), rfl, ⟨false, rfl, ⟨hw, had_94⟩⟩, ⟨P_at ht hP, hD⟩⟩, hS.F ht⟩) hS.2.2 dL_areRefused_386
                                            · have hw := hw.1 c_96
                                              refine lv_aload_n hx hb dL_areRefused_377 rfl (lv_at hl 3 rfl) ?_
                                              obtain ⟨hPs, hDs⟩ := seg_call (segs := [[(a_r_, .inl (g 0, n_r_, .inl r__9))], offS ad_94 tp_p_ hd_p_ tf_p_ cf_p_ g o_95]) [[(a_r_, .inl (g 0, n_r_, .inl r__9))]] [offS ad_94 tp_p_ hd_p_ tf_p_ cf_p_ g o_95] 2 [0, 1] rfl rfl (by decide) hP hD
                                              have hPc : va_P (dC, dI) vwCl (offS ad_94 tp_p_ hd_p_ tf_p_ cf_p_ g o_95) H_93 := P_r hPs
                                              have hDc : va_D A (offS ad_94 tp_p_ hd_p_ tf_p_ cf_p_ g o_95) := D_r hDs
                                              have hFc : ∀ q, va_A (offS ad_94 tp_p_ hd_p_ tf_p_ cf_p_ g o_95) H_93.size q → A q := A_all hDc hA hS.1
                                              refine vx_calli (vx_runV (As := []) (rest := []) ⟨hx, hb, hml, hown, hts⟩ (p_records l hlf dC dI g tp_p_ hd_p_ tf_p_ cf_p_ htf_p_ hcf_p_ ad_94 t_p_ had_94 o_95 (hw := hw) (sz := H_93.size)) (cwV 0 hts (gqV aw_7_211 aw_7_212 aw_7_213 aw_1_1 aw_7_214) rfl rfl rfl (by decide +kernel) ⟨Nat.le_of_ble_eq_true rfl, Nat.le_of_ble_eq_true rfl⟩) ⟨PG_blind, off_recv had_94 hK hPc, PG_call hK hG hS hPc hDc hFc⟩ rfl rfl hl.1 rfl (lv_room (Nat.le_of_ble_eq_true rfl)) dL_areRefused_378 ⟨by rw [hrc]; omega, by rw [hrs]; omega⟩) hS (fun q _ h => hFc q h) hFc (fun q _ h => hFc q h) (fun E ce q9 ux t H1 locs1 ht hvm hp9 hB9 hz hk hS9 hce hcv hcl => ?_) (fun r_97 u_97 t_97 H_97 L_97 ht_97 hvm_97 hw_97 hB_97 hz_97 hk_97 hS => ?_)
                                              · exact (hB9.1.1).elim
                                              obtain ⟨ad_98, o_99⟩ := u_97
                                              obtain ⟨hw, had_98⟩ := hw_97
                                              rw [ht_97] at hB_97
                                              obtain ⟨hP1, hD1⟩ := hB_97
                                              obtain ⟨hP, hD⟩ := join_r hPs hDs hk_97 hFc hP1 hD1
                                              obtain ⟨hP, hD⟩ := seg_join [[(a_r_, .inl (g 0, n_r_, .inl r__9))]] [offS ad_98 tp_p_ hd_p_ tf_p_ cf_p_ g o_99] [[(a_r_, .inl (g 0, n_r_, .inl r__9))], offS ad_98 tp_p_ hd_p_ tf_p_ cf_p_ g o_99] 2 [0, 1] rfl rfl (by decide) hP hD
                                              have hP : va_P (dC, dI) vwCl ([(a_r_, .inl (g 0, n_r_, .inl r__9))] ++ (offS ad_98 tp_p_ hd_p_ tf_p_ cf_p_ g o_99)) H_97 := hP
                                              have hD : va_D A ([(a_r_, .inl (g 0, n_r_, .inl r__9))] ++ (offS ad_98 tp_p_ hd_p_ tf_p_ cf_p_ g o_99)) := hD
                                              refine W.widen (k := 71) (n := 426) (by omega) (by omega) ?_
                                              refine lv_iload_n hx hb dL_areRefused_381 rfl (lv_at hl 1 rfl) ?_
                                              refine lv_icmp_eq (tgt := 387) hx hb dL_areRefused_382 (by decide) (fun c_100 => ?_) (fun c_100 => ?_)
                                              · have hw := hw.1 c_100
                                                refine lv_iconst (v := 0) hx hb dL_areRefused_387 (by decide) ?_
                                                refine lv_istore (lv' := [(5, .int 0), (4, .int r_8), (3, .int r_5), (2, .int sk0_3), (0, .ref t_p_), (1, .ref a_r_)]) hx hb dL_areRefused_388 hl (by decide) rfl (fun ls hl => ?_)
                                                have EX390_435 : ∀ (o_103 : OS) (ad_104 : Nat → Nat) (had_104 : ad_104 0 = t_p_) (H : Heap) (locs : List Loc), (wx_L_areRefused_390_435 Q r__9) o_103 → va_P (dC, dI) vwCl ([(a_r_, .inl (g 0, n_r_, .inl r__9))] ++ (offS ad_104 tp_p_ hd_p_ tf_p_ cf_p_ g o_103)) H → va_D A ([(a_r_, .inl (g 0, n_r_, .inl r__9))] ++ (offS ad_104 tp_p_ hd_p_ tf_p_ cf_p_ g o_103)) → va_S A s.heap H locs → ∀ (ls : Array Slot), lv_has ls 6 [(0, .ref t_p_)] → W p l e (headSpec wqL_areRefused ({ frames := 9, cells := 591, slots := 3546, locals := 167 })).room s m ([.ref t_p_, .ref a_r_] : List Value).toArray below meth c H locs 576 3456 QM (F0 m 435 ls []) := by
                                                  intro o_103 ad_104 had_104 H locs hw hP hD hS ls hl
                                                  refine lv_aload_n hx hb dL_areRefused_435 rfl (lv_at hl 0 rfl) ?_
                                                  refine lv_iconst (v := 0) hx hb dL_areRefused_436 (by decide) ?_
                                                  refine lv_bipush (v := 6) hx hb dL_areRefused_437 (by decide) ?_
                                                  refine lv_iconst (v := 0) hx hb dL_areRefused_439 (by decide) ?_
                                                  refine lv_iconst (v := 0) hx hb dL_areRefused_440 (by decide) ?_
                                                  obtain ⟨hPs, hDs⟩ := seg_call (segs := [[(a_r_, .inl (g 0, n_r_, .inl r__9))], offS ad_104 tp_p_ hd_p_ tf_p_ cf_p_ g o_103]) [[(a_r_, .inl (g 0, n_r_, .inl r__9))]] [offS ad_104 tp_p_ hd_p_ tf_p_ cf_p_ g o_103] 2 [0, 1] rfl rfl (by decide) hP hD
                                                  have hPc : va_P (dC, dI) vwCl (offS ad_104 tp_p_ hd_p_ tf_p_ cf_p_ g o_103) H := P_r hPs
                                                  have hDc : va_D A (offS ad_104 tp_p_ hd_p_ tf_p_ cf_p_ g o_103) := D_r hDs
                                                  have hFc : ∀ q, va_A (offS ad_104 tp_p_ hd_p_ tf_p_ cf_p_ g o_103) H.size q → A q := A_all hDc hA hS.1
                                                  refine va_calli (vx_runSW (As := [.ref t_p_, .int 0, .int 6, .int 0, .int 0]) (rest := []) ⟨hx, hb, hml, hown, hts⟩ (c_L_asks_0 l hlf dC dI g (tp_p_ := tp_p_) (hd_p_ := hd_p_) (tf_p_ := tf_p_) (cf_p_ := cf_p_) (htf_p_ := htf_p_) (hcf_p_ := hcf_p_) (a_p_ := ad_104) (t_p_ := t_p_) (h_p_ := had_104) (o_p_ := o_103) (a_ := 6) (b_ := 0) (c_ := 0) (hw := hw) (sz := H.size)) (vx_cwSW 5 hts (gqS aw_4_45 aw_4_46 aw_1_0 aw_4_47) rfl rfl rfl (by decide +kernel) ⟨Nat.le_of_ble_eq_true rfl, Nat.le_of_ble_eq_true rfl⟩) ⟨PG_blind, PG_call hK hG hS hPc hDc hFc⟩ rfl rfl hl.1 rfl (lv_room (Nat.le_of_ble_eq_true rfl)) dL_areRefused_441 ⟨by rw [hrc]; omega, by rw [hrs]; omega⟩) hS (fun q _ h => hFc q h) hFc (fun r_105 u_105 t_105 H_105 L_105 ht_105 hvm_105 hw_105 hB_105 hz_105 hk_105 hS => ?_)
                                                  obtain ⟨ad_106, o_107, u_105⟩ := u_105
                                                  obtain ⟨hw, had_106⟩ := hw_105
                                                  rw [ht_105] at hB_105
                                                  obtain ⟨hP1, hD1⟩ := hB_105
                                                  obtain ⟨hP, hD⟩ := join_r hPs hDs hk_105 hFc hP1 hD1
                                                  obtain ⟨hP, hD⟩ := seg_join [[(a_r_, .inl (g 0, n_r_, .inl r__9))]] [offS ad_106 tp_p_ hd_p_ tf_p_ cf_p_ g o_107] [[(a_r_, .inl (g 0, n_r_, .inl r__9))], offS ad_106 tp_p_ hd_p_ tf_p_ cf_p_ g o_107] 2 [0, 1] rfl rfl (by decide) hP hD
                                                  have hP : va_P (dC, dI) vwCl ([(a_r_, .inl (g 0, n_r_, .inl r__9))] ++ (offS ad_106 tp_p_ hd_p_ tf_p_ cf_p_ g o_107)) H_105 := hP
                                                  have hD : va_D A ([(a_r_, .inl (g 0, n_r_, .inl r__9))] ++ (offS ad_106 tp_p_ hd_p_ tf_p_ cf_p_ g o_107)) := hD
                                                  refine W.widen (k := 580) (n := 3480) (by omega) (by omega) ?_
                                                  refine lv_sipush (v := (-20004)) hx hb dL_areRefused_444 (by decide) ?_
                                                  refine lv_icmp_ne (tgt := 499) hx hb dL_areRefused_447 (by decide) (fun c_108 => ?_) (fun c_108 => ?_)
                                                  · have hw := hw.2 c_108
                                                    refine lv_iconst (v := 0) hx hb dL_areRefused_499 (by decide) ?_
                                                    refine W.widen (k := 591) (n := 3546) (by omega) (by omega) ?_
                                                    subst hQM
                                                    exact W.zret (v := 0) hx hb hr rfl (fun t ht hW => ⟨⟨_, (r__9, ad_106, o_107, ()), rfl, ⟨false, rfl, ⟨hw, had_106⟩⟩, ⟨P_at ht hP, hD⟩⟩, hS.F ht⟩) hS.2.2 dL_areRefused_500
                                                  · have hw := hw.1 c_108
                                                    refine lv_aload_n hx hb dL_areRefused_450 rfl (lv_at hl 0 rfl) ?_
                                                    refine lv_iconst (v := 0) hx hb dL_areRefused_451 (by decide) ?_
                                                    refine lv_bipush (v := 6) hx hb dL_areRefused_452 (by decide) ?_
                                                    refine lv_sipush (v := 1000) hx hb dL_areRefused_454 (by decide) ?_
                                                    refine lv_iconst (v := 0) hx hb dL_areRefused_457 (by decide) ?_
                                                    obtain ⟨hPs, hDs⟩ := seg_call (segs := [[(a_r_, .inl (g 0, n_r_, .inl r__9))], offS ad_106 tp_p_ hd_p_ tf_p_ cf_p_ g o_107]) [[(a_r_, .inl (g 0, n_r_, .inl r__9))]] [offS ad_106 tp_p_ hd_p_ tf_p_ cf_p_ g o_107] 2 [0, 1] rfl rfl (by decide) hP hD
                                                    have hPc : va_P (dC, dI) vwCl (offS ad_106 tp_p_ hd_p_ tf_p_ cf_p_ g o_107) H_105 := P_r hPs
                                                    have hDc : va_D A (offS ad_106 tp_p_ hd_p_ tf_p_ cf_p_ g o_107) := D_r hDs
                                                    have hFc : ∀ q, va_A (offS ad_106 tp_p_ hd_p_ tf_p_ cf_p_ g o_107) H_105.size q → A q := A_all hDc hA hS.1
                                                    refine va_calli (vx_runSW (As := [.ref t_p_, .int 0, .int 6, .int 1000, .int 0]) (rest := []) ⟨hx, hb, hml, hown, hts⟩ (c_L_asks_0 l hlf dC dI g (tp_p_ := tp_p_) (hd_p_ := hd_p_) (tf_p_ := tf_p_) (cf_p_ := cf_p_) (htf_p_ := htf_p_) (hcf_p_ := hcf_p_) (a_p_ := ad_106) (t_p_ := t_p_) (h_p_ := had_106) (o_p_ := o_107) (a_ := 6) (b_ := 1000) (c_ := 0) (hw := hw) (sz := H_105.size)) (vx_cwSW 5 hts (gqS aw_4_45 aw_4_46 aw_1_0 aw_4_47) rfl rfl rfl (by decide +kernel) ⟨Nat.le_of_ble_eq_true rfl, Nat.le_of_ble_eq_true rfl⟩) ⟨PG_blind, PG_call hK hG hS hPc hDc hFc⟩ rfl rfl hl.1 rfl (lv_room (Nat.le_of_ble_eq_true rfl)) dL_areRefused_458 ⟨by rw [hrc]; omega, by rw [hrs]; omega⟩) hS (fun q _ h => hFc q h) hFc (fun r_109 u_109 t_109 H_109 L_109 ht_109 hvm_109 hw_109 hB_109 hz_109 hk_109 hS => ?_)
                                                    obtain ⟨ad_110, o_111, u_109⟩ := u_109
                                                    obtain ⟨hw, had_110⟩ := hw_109
                                                    rw [ht_109] at hB_109
                                                    obtain ⟨hP1, hD1⟩ := hB_109
                                                    obtain ⟨hP, hD⟩ := join_r hPs hDs hk_109 hFc hP1 hD1
                                                    obtain ⟨hP, hD⟩ := seg_join [[(a_r_, .inl (g 0, n_r_, .inl r__9))]] [offS ad_110 tp_p_ hd_p_ tf_p_ cf_p_ g o_111] [[(a_r_, .inl (g 0, n_r_, .inl r__9))], offS ad_110 tp_p_ hd_p_ tf_p_ cf_p_ g o_111] 2 [0, 1] rfl rfl (by decide) hP hD
                                                    have hP : va_P (dC, dI) vwCl ([(a_r_, .inl (g 0, n_r_, .inl r__9))] ++ (offS ad_110 tp_p_ hd_p_ tf_p_ cf_p_ g o_111)) H_109 := hP
                                                    have hD : va_D A ([(a_r_, .inl (g 0, n_r_, .inl r__9))] ++ (offS ad_110 tp_p_ hd_p_ tf_p_ cf_p_ g o_111)) := hD
                                                    refine W.widen (k := 584) (n := 3504) (by omega) (by omega) ?_
                                                    refine lv_sipush (v := (-20003)) hx hb dL_areRefused_461 (by decide) ?_
                                                    refine lv_icmp_ne (tgt := 499) hx hb dL_areRefused_464 (by decide) (fun c_112 => ?_) (fun c_112 => ?_)
                                                    · have hw := hw.2 c_112
                                                      refine lv_iconst (v := 0) hx hb dL_areRefused_499 (by decide) ?_
                                                      refine W.widen (k := 591) (n := 3546) (by omega) (by omega) ?_
                                                      subst hQM
                                                      exact W.zret (v := 0) hx hb hr rfl (fun t ht hW => ⟨⟨_, (r__9, ad_110, o_111, ()), rfl, ⟨false, rfl, ⟨hw, had_110⟩⟩, ⟨P_at ht hP, hD⟩⟩, hS.F ht⟩) hS.2.2 dL_areRefused_500
                                                    · have hw := hw.1 c_112
                                                      refine lv_aload_n hx hb dL_areRefused_467 rfl (lv_at hl 0 rfl) ?_
                                                      obtain ⟨hPs, hDs⟩ := seg_call (segs := [[(a_r_, .inl (g 0, n_r_, .inl r__9))], offS ad_110 tp_p_ hd_p_ tf_p_ cf_p_ g o_111]) [[(a_r_, .inl (g 0, n_r_, .inl r__9))]] [offS ad_110 tp_p_ hd_p_ tf_p_ cf_p_ g o_111] 2 [0, 1] rfl rfl (by decide) hP hD
                                                      have hPc : va_P (dC, dI) vwCl (offS ad_110 tp_p_ hd_p_ tf_p_ cf_p_ g o_111) H_109 := P_r hPs
                                                      have hDc : va_D A (offS ad_110 tp_p_ hd_p_ tf_p_ cf_p_ g o_111) := D_r hDs
                                                      have hFc : ∀ q, va_A (offS ad_110 tp_p_ hd_p_ tf_p_ cf_p_ g o_111) H_109.size q → A q := A_all hDc hA hS.1
                                                      refine vx_calli (vx_runV (As := []) (rest := []) ⟨hx, hb, hml, hown, hts⟩ (p_records l hlf dC dI g tp_p_ hd_p_ tf_p_ cf_p_ htf_p_ hcf_p_ ad_110 t_p_ had_110 o_111 (hw := hw) (sz := H_109.size)) (cwV 0 hts (gqV aw_7_211 aw_7_212 aw_7_213 aw_1_1 aw_7_214) rfl rfl rfl (by decide +kernel) ⟨Nat.le_of_ble_eq_true rfl, Nat.le_of_ble_eq_true rfl⟩) ⟨PG_blind, off_recv had_110 hK hPc, PG_call hK hG hS hPc hDc hFc⟩ rfl rfl hl.1 rfl (lv_room (Nat.le_of_ble_eq_true rfl)) dL_areRefused_468 ⟨by rw [hrc]; omega, by rw [hrs]; omega⟩) hS (fun q _ h => hFc q h) hFc (fun q _ h => hFc q h) (fun E ce q9 ux t H1 locs1 ht hvm hp9 hB9 hz hk hS9 hce hcv hcl => ?_) (fun r_113 u_113 t_113 H_113 L_113 ht_113 hvm_113 hw_113 hB_113 hz_113 hk_113 hS => ?_)
                                                      · exact (hB9.1.1).elim
                                                      obtain ⟨ad_114, o_115⟩ := u_113
                                                      obtain ⟨hw, had_114⟩ := hw_113
                                                      rw [ht_113] at hB_113
                                                      obtain ⟨hP1, hD1⟩ := hB_113
                                                      obtain ⟨hP, hD⟩ := join_r hPs hDs hk_113 hFc hP1 hD1
                                                      obtain ⟨hP, hD⟩ := seg_join [[(a_r_, .inl (g 0, n_r_, .inl r__9))]] [offS ad_114 tp_p_ hd_p_ tf_p_ cf_p_ g o_115] [[(a_r_, .inl (g 0, n_r_, .inl r__9))], offS ad_114 tp_p_ hd_p_ tf_p_ cf_p_ g o_115] 2 [0, 1] rfl rfl (by decide) hP hD
                                                      have hP : va_P (dC, dI) vwCl ([(a_r_, .inl (g 0, n_r_, .inl r__9))] ++ (offS ad_114 tp_p_ hd_p_ tf_p_ cf_p_ g o_115)) H_113 := hP
                                                      have hD : va_D A ([(a_r_, .inl (g 0, n_r_, .inl r__9))] ++ (offS ad_114 tp_p_ hd_p_ tf_p_ cf_p_ g o_115)) := hD
                                                      refine W.widen (k := 584) (n := 3504) (by omega) (by omega) ?_
                                                      refine lv_sipush (v := 200) hx hb dL_areRefused_471 (by decide) ?_
                                                      refine lv_icmp_ne (tgt := 499) hx hb dL_areRefused_474 (by decide) (fun c_116 => ?_) (fun c_116 => ?_)
                                                      · have hw := hw.2 c_116
                                                        refine lv_iconst (v := 0) hx hb dL_areRefused_499 (by decide) ?_
                                                        refine W.widen (k := 591) (n := 3546) (by omega) (by omega) ?_
                                                        subst hQM
                                                        exact W.zret (v := 0) hx hb hr rfl (fun t ht hW => ⟨⟨_, (r__9, ad_114, o_115, ()), rfl, ⟨false, rfl, ⟨hw, had_114⟩⟩, ⟨P_at ht hP, hD⟩⟩, hS.F ht⟩) hS.2.2 dL_areRefused_500
                                                      · have hw := hw.1 c_116
                                                        refine lv_aload_n hx hb dL_areRefused_477 rfl (lv_at hl 0 rfl) ?_
                                                        refine lv_bipush (v := 6) hx hb dL_areRefused_478 (by decide) ?_
                                                        refine lv_iconst (v := 1) hx hb dL_areRefused_480 (by decide) ?_
                                                        refine lv_iconst (v := 1) hx hb dL_areRefused_481 (by decide) ?_
                                                        refine lv_iconst (v := 0) hx hb dL_areRefused_482 (by decide) ?_
                                                        obtain ⟨hPs, hDs⟩ := seg_call (segs := [[(a_r_, .inl (g 0, n_r_, .inl r__9))], offS ad_114 tp_p_ hd_p_ tf_p_ cf_p_ g o_115]) [[(a_r_, .inl (g 0, n_r_, .inl r__9))]] [offS ad_114 tp_p_ hd_p_ tf_p_ cf_p_ g o_115] 2 [0, 1] rfl rfl (by decide) hP hD
                                                        have hPc : va_P (dC, dI) vwCl (offS ad_114 tp_p_ hd_p_ tf_p_ cf_p_ g o_115) H_113 := P_r hPs
                                                        have hDc : va_D A (offS ad_114 tp_p_ hd_p_ tf_p_ cf_p_ g o_115) := D_r hDs
                                                        have hFc : ∀ q, va_A (offS ad_114 tp_p_ hd_p_ tf_p_ cf_p_ g o_115) H_113.size q → A q := A_all hDc hA hS.1
                                                        refine vx_calli (vx_runV (As := [.int 6, .int 1, .int 1, .int 0]) (rest := []) ⟨hx, hb, hml, hown, hts⟩ (p_fill l hlf dC dI g tp_p_ hd_p_ tf_p_ cf_p_ htf_p_ hcf_p_ ad_114 t_p_ had_114 o_115 6 1 1 0 (hw := hw) (sz := H_113.size)) (cwV 4 hts (gqV aw_3_66 aw_3_67 aw_3_68 aw_1_1 aw_3_69) rfl rfl rfl (by decide +kernel) ⟨Nat.le_of_ble_eq_true rfl, Nat.le_of_ble_eq_true rfl⟩) ⟨PG_blind, off_recv had_114 hK hPc, PG_call hK hG hS hPc hDc hFc⟩ rfl rfl hl.1 rfl (lv_room (Nat.le_of_ble_eq_true rfl)) dL_areRefused_483 ⟨by rw [hrc]; omega, by rw [hrs]; omega⟩) hS (fun q _ h => hFc q h) hFc (fun q _ h => hFc q h) (fun E ce q9 ux t H1 locs1 ht hvm hp9 hB9 hz hk hS9 hce hcv hcl => ?_) (fun r_117 u_117 t_117 H_117 L_117 ht_117 hvm_117 hw_117 hB_117 hz_117 hk_117 hS => ?_)
                                                        · exact (hB9.1.1).elim
                                                        obtain ⟨ad_118, o_119⟩ := u_117
                                                        obtain ⟨hw, had_118⟩ := hw_117
                                                        rw [ht_117] at hB_117
                                                        obtain ⟨hP1, hD1⟩ := hB_117
                                                        obtain ⟨hP, hD⟩ := join_r hPs hDs hk_117 hFc hP1 hD1
                                                        obtain ⟨hP, hD⟩ := seg_join [[(a_r_, .inl (g 0, n_r_, .inl r__9))]] [offS ad_118 tp_p_ hd_p_ tf_p_ cf_p_ g o_119] [[(a_r_, .inl (g 0, n_r_, .inl r__9))], offS ad_118 tp_p_ hd_p_ tf_p_ cf_p_ g o_119] 2 [0, 1] rfl rfl (by decide) hP hD
                                                        have hP : va_P (dC, dI) vwCl ([(a_r_, .inl (g 0, n_r_, .inl r__9))] ++ (offS ad_118 tp_p_ hd_p_ tf_p_ cf_p_ g o_119)) H_117 := hP
                                                        have hD : va_D A ([(a_r_, .inl (g 0, n_r_, .inl r__9))] ++ (offS ad_118 tp_p_ hd_p_ tf_p_ cf_p_ g o_119)) := hD
                                                        refine W.widen (k := 590) (n := 3540) (by omega) (by omega) ?_
                                                        refine lv_aload_n hx hb dL_areRefused_486 rfl (lv_at hl 0 rfl) ?_
                                                        refine lv_bipush (v := 6) hx hb dL_areRefused_487 (by decide) ?_
                                                        obtain ⟨hPs, hDs⟩ := seg_call (segs := [[(a_r_, .inl (g 0, n_r_, .inl r__9))], offS ad_118 tp_p_ hd_p_ tf_p_ cf_p_ g o_119]) [[(a_r_, .inl (g 0, n_r_, .inl r__9))]] [offS ad_118 tp_p_ hd_p_ tf_p_ cf_p_ g o_119] 2 [0, 1] rfl rfl (by decide) hP hD
                                                        have hPc : va_P (dC, dI) vwCl (offS ad_118 tp_p_ hd_p_ tf_p_ cf_p_ g o_119) H_117 := P_r hPs
                                                        have hDc : va_D A (offS ad_118 tp_p_ hd_p_ tf_p_ cf_p_ g o_119) := D_r hDs
                                                        have hFc : ∀ q, va_A (offS ad_118 tp_p_ hd_p_ tf_p_ cf_p_ g o_119) H_117.size q → A q := A_all hDc hA hS.1
                                                        refine vx_calli (vx_runV (As := [.int 6]) (rest := [.int r_117]) ⟨hx, hb, hml, hown, hts⟩ (p_length l hlf dC dI g tp_p_ hd_p_ tf_p_ cf_p_ htf_p_ hcf_p_ ad_118 t_p_ had_118 o_119 6 (hw := hw) (sz := H_117.size)) (cwV 1 hts (gqV aw_3_161 aw_3_162 aw_3_163 aw_1_1 aw_3_164) rfl rfl rfl (by decide +kernel) ⟨Nat.le_of_ble_eq_true rfl, Nat.le_of_ble_eq_true rfl⟩) ⟨PG_blind, off_recv had_118 hK hPc, PG_call hK hG hS hPc hDc hFc⟩ rfl rfl hl.1 rfl (lv_room (Nat.le_of_ble_eq_true rfl)) dL_areRefused_489 ⟨by rw [hrc]; omega, by rw [hrs]; omega⟩) hS (fun q _ h => hFc q h) hFc (fun q _ h => hFc q h) (fun E ce q9 ux t H1 locs1 ht hvm hp9 hB9 hz hk hS9 hce hcv hcl => ?_) (fun r_120 u_120 t_120 H_120 L_120 ht_120 hvm_120 hw_120 hB_120 hz_120 hk_120 hS => ?_)
                                                        · exact (hB9.1.1).elim
                                                        obtain ⟨ad_121, o_122⟩ := u_120
                                                        obtain ⟨hw, had_121⟩ := hw_120
                                                        rw [ht_120] at hB_120
                                                        obtain ⟨hP1, hD1⟩ := hB_120
                                                        obtain ⟨hP, hD⟩ := join_r hPs hDs hk_120 hFc hP1 hD1
                                                        obtain ⟨hP, hD⟩ := seg_join [[(a_r_, .inl (g 0, n_r_, .inl r__9))]] [offS ad_121 tp_p_ hd_p_ tf_p_ cf_p_ g o_122] [[(a_r_, .inl (g 0, n_r_, .inl r__9))], offS ad_121 tp_p_ hd_p_ tf_p_ cf_p_ g o_122] 2 [0, 1] rfl rfl (by decide) hP hD
                                                        have hP : va_P (dC, dI) vwCl ([(a_r_, .inl (g 0, n_r_, .inl r__9))] ++ (offS ad_121 tp_p_ hd_p_ tf_p_ cf_p_ g o_122)) H_120 := hP
                                                        have hD : va_D A ([(a_r_, .inl (g 0, n_r_, .inl r__9))] ++ (offS ad_121 tp_p_ hd_p_ tf_p_ cf_p_ g o_122)) := hD
                                                        refine W.widen (k := 591) (n := 3546) (by omega) (by omega) ?_
                                                        refine lv_icmp_ne (tgt := 499) hx hb dL_areRefused_492 (by decide) (fun c_123 => ?_) (fun c_123 => ?_)
                                                        · have hw := hw.2 c_123
                                                          refine lv_iconst (v := 0) hx hb dL_areRefused_499 (by decide) ?_
                                                          refine W.widen (k := 591) (n := 3546) (by omega) (by omega) ?_
                                                          subst hQM
                                                          exact W.zret (v := 0) hx hb hr rfl (fun t ht hW => ⟨⟨_, (r__9, ad_121, o_122, ()), rfl, ⟨false, rfl, ⟨hw, had_121⟩⟩, ⟨P_at ht hP, hD⟩⟩, hS.F ht⟩) hS.2.2 dL_areRefused_500
                                                        · have hw := hw.1 c_123
                                                          refine lv_iconst (v := 1) hx hb dL_areRefused_495 (by decide) ?_
                                                          refine lv_goto (tgt := 500) hx hb dL_areRefused_496 (by decide) ?_
                                                          refine W.widen (k := 591) (n := 3546) (by omega) (by omega) ?_
                                                          subst hQM
                                                          exact W.zret (v := 1) hx hb hr rfl (fun t ht hW => ⟨⟨_, (r__9, ad_121, o_122, ()), rfl, ⟨true, rfl, ⟨hw, had_121⟩⟩, ⟨P_at ht hP, hD⟩⟩, hS.F ht⟩) hS.2.2 dL_areRefused_500
                                                have LOOP390 : ∀ (n390 : Nat), n390 ≤ 101 → ∀ (o_101 : OS) (ad_102 : Nat → Nat) (had_102 : ad_102 0 = t_p_) (H : Heap) (locs : List Loc), wl_L_areRefused_390 (wx_L_areRefused_390_435 Q r__9) n390 o_101 → va_P (dC, dI) vwCl ([(a_r_, .inl (g 0, n_r_, .inl r__9))] ++ (offS ad_102 tp_p_ hd_p_ tf_p_ cf_p_ g o_101)) H → va_D A ([(a_r_, .inl (g 0, n_r_, .inl r__9))] ++ (offS ad_102 tp_p_ hd_p_ tf_p_ cf_p_ g o_101)) → va_S A s.heap H locs → ∀ (ls : Array Slot), lv_has ls 6 [(0, .ref t_p_)] → W p l e (headSpec wqL_areRefused ({ frames := 9, cells := 591, slots := 3546, locals := 167 })).room s m ([.ref t_p_, .ref a_r_] : List Value).toArray below meth c H locs (576 - n390 * 5) (3456 - n390 * 30) QM (F0 m 390 ls []) := by
                                                  intro n390
                                                  induction n390 with
                                                  | zero =>
                                                    intro hle_n390
                                                    intro o_101 ad_102 had_102 H locs hw hP hD hS ls hl
                                                    exact False.elim hw
                                                  | succ n390 ih390 =>
                                                    intro hle_n390
                                                    have ih390 := ih390 (by omega)
                                                    intro o_101 ad_102 had_102 H locs hw hP hD hS ls hl
                                                    rw [wl_L_areRefused_390_s] at hw
                                                    obtain ⟨kb390, hkb390⟩ : ∃ x : Nat, x = 576 - (n390 + 1) * 5 := ⟨_, rfl⟩
                                                    obtain ⟨nb390, hnb390⟩ : ∃ x : Nat, x = 3456 - (n390 + 1) * 30 := ⟨_, rfl⟩
                                                    refine W.widen (k := kb390) (n := nb390) (by omega) (by omega) ?_
                                                    refine lv_aload_n hx hb dL_areRefused_390 rfl (lv_at hl 0 rfl) ?_
                                                    obtain ⟨hPs, hDs⟩ := seg_call (segs := [[(a_r_, .inl (g 0, n_r_, .inl r__9))], offS ad_102 tp_p_ hd_p_ tf_p_ cf_p_ g o_101]) [[(a_r_, .inl (g 0, n_r_, .inl r__9))]] [offS ad_102 tp_p_ hd_p_ tf_p_ cf_p_ g o_101] 2 [0, 1] rfl rfl (by decide) hP hD
                                                    have hPc : va_P (dC, dI) vwCl (offS ad_102 tp_p_ hd_p_ tf_p_ cf_p_ g o_101) H := P_r hPs
                                                    have hDc : va_D A (offS ad_102 tp_p_ hd_p_ tf_p_ cf_p_ g o_101) := D_r hDs
                                                    have hFc : ∀ q, va_A (offS ad_102 tp_p_ hd_p_ tf_p_ cf_p_ g o_101) H.size q → A q := A_all hDc hA hS.1
                                                    refine vx_calli (vx_runV (As := []) (rest := []) ⟨hx, hb, hml, hown, hts⟩ (p_records l hlf dC dI g tp_p_ hd_p_ tf_p_ cf_p_ htf_p_ hcf_p_ ad_102 t_p_ had_102 o_101 (hw := hw) (sz := H.size)) (cwV 0 hts (gqV aw_7_211 aw_7_212 aw_7_213 aw_1_1 aw_7_214) rfl rfl rfl (by decide +kernel) ⟨Nat.le_of_ble_eq_true rfl, Nat.le_of_ble_eq_true rfl⟩) ⟨PG_blind, off_recv had_102 hK hPc, PG_call hK hG hS hPc hDc hFc⟩ rfl rfl hl.1 rfl (lv_room (Nat.le_of_ble_eq_true rfl)) dL_areRefused_391 ⟨by rw [hrc]; omega, by rw [hrs]; omega⟩) hS (fun q _ h => hFc q h) hFc (fun q _ h => hFc q h) (fun E ce q9 ux t H1 locs1 ht hvm hp9 hB9 hz hk hS9 hce hcv hcl => ?_) (fun r_124 u_124 t_124 H_124 L_124 ht_124 hvm_124 hw_124 hB_124 hz_124 hk_124 hS => ?_)
                                                    · exact (hB9.1.1).elim
                                                    obtain ⟨ad_125, o_126⟩ := u_124
                                                    obtain ⟨hw, had_125⟩ := hw_124
                                                    rw [ht_124] at hB_124
                                                    obtain ⟨hP1, hD1⟩ := hB_124
                                                    obtain ⟨hP, hD⟩ := join_r hPs hDs hk_124 hFc hP1 hD1
                                                    obtain ⟨hP, hD⟩ := seg_join [[(a_r_, .inl (g 0, n_r_, .inl r__9))]] [offS ad_125 tp_p_ hd_p_ tf_p_ cf_p_ g o_126] [[(a_r_, .inl (g 0, n_r_, .inl r__9))], offS ad_125 tp_p_ hd_p_ tf_p_ cf_p_ g o_126] 2 [0, 1] rfl rfl (by decide) hP hD
                                                    have hP : va_P (dC, dI) vwCl ([(a_r_, .inl (g 0, n_r_, .inl r__9))] ++ (offS ad_125 tp_p_ hd_p_ tf_p_ cf_p_ g o_126)) H_124 := hP
                                                    have hD : va_D A ([(a_r_, .inl (g 0, n_r_, .inl r__9))] ++ (offS ad_125 tp_p_ hd_p_ tf_p_ cf_p_ g o_126)) := hD
                                                    refine W.widen (k := (kb390 + 0)) (n := (nb390 + 0)) (by omega) (by omega) ?_
                                                    refine lv_sipush (v := 200) hx hb dL_areRefused_394 (by decide) ?_
                                                    refine lv_icmp_ge (tgt := 435) hx hb dL_areRefused_397 (by decide) (fun c_127 => ?_) (fun c_127 => ?_)
                                                    · have hw := hw.1 c_127
                                                      refine W.widen (k := 576) (n := 3456) (by omega) (by omega) ?_
                                                      exact EX390_435 o_126 ad_125 had_125 _ _ hw hP hD hS _ (lv_sub hl [0] rfl)
                                                    · have hw := hw.2 c_127
                                                      refine lv_aload_n hx hb dL_areRefused_400 rfl (lv_at hl 0 rfl) ?_
                                                      refine lv_bipush (v := 6) hx hb dL_areRefused_401 (by decide) ?_
                                                      obtain ⟨hPs, hDs⟩ := seg_call (segs := [[(a_r_, .inl (g 0, n_r_, .inl r__9))], offS ad_125 tp_p_ hd_p_ tf_p_ cf_p_ g o_126]) [[(a_r_, .inl (g 0, n_r_, .inl r__9))]] [offS ad_125 tp_p_ hd_p_ tf_p_ cf_p_ g o_126] 2 [0, 1] rfl rfl (by decide) hP hD
                                                      have hPc : va_P (dC, dI) vwCl (offS ad_125 tp_p_ hd_p_ tf_p_ cf_p_ g o_126) H_124 := P_r hPs
                                                      have hDc : va_D A (offS ad_125 tp_p_ hd_p_ tf_p_ cf_p_ g o_126) := D_r hDs
                                                      have hFc : ∀ q, va_A (offS ad_125 tp_p_ hd_p_ tf_p_ cf_p_ g o_126) H_124.size q → A q := A_all hDc hA hS.1
                                                      refine vx_calli (vx_runV (As := [.int 6]) (rest := []) ⟨hx, hb, hml, hown, hts⟩ (p_clear l hlf dC dI g tp_p_ hd_p_ tf_p_ cf_p_ htf_p_ hcf_p_ ad_125 t_p_ had_125 o_126 6 (hw := hw) (sz := H_124.size)) (cwV 1 hts (gqV aw_2_225 aw_2_226 aw_2_227 aw_1_1 aw_2_228) rfl rfl rfl (by decide +kernel) ⟨Nat.le_of_ble_eq_true rfl, Nat.le_of_ble_eq_true rfl⟩) ⟨PG_blind, off_recv had_125 hK hPc, PG_call hK hG hS hPc hDc hFc⟩ rfl rfl hl.1 rfl (lv_room (Nat.le_of_ble_eq_true rfl)) dL_areRefused_403 ⟨by rw [hrc]; omega, by rw [hrs]; omega⟩) hS (fun q _ h => hFc q h) hFc (fun q _ h => hFc q h) (fun E ce q9 ux t H1 locs1 ht hvm hp9 hB9 hz hk hS9 hce hcv hcl => ?_) (fun r_128 u_128 t_128 H_128 L_128 ht_128 hvm_128 hw_128 hB_128 hz_128 hk_128 hS => ?_)
                                                      · exact (hB9.1.1).elim
                                                      obtain ⟨ad_129, o_130⟩ := u_128
                                                      obtain ⟨hw, had_129⟩ := hw_128
                                                      rw [ht_128] at hB_128
                                                      obtain ⟨hP1, hD1⟩ := hB_128
                                                      obtain ⟨hP, hD⟩ := join_r hPs hDs hk_128 hFc hP1 hD1
                                                      obtain ⟨hP, hD⟩ := seg_join [[(a_r_, .inl (g 0, n_r_, .inl r__9))]] [offS ad_129 tp_p_ hd_p_ tf_p_ cf_p_ g o_130] [[(a_r_, .inl (g 0, n_r_, .inl r__9))], offS ad_129 tp_p_ hd_p_ tf_p_ cf_p_ g o_130] 2 [0, 1] rfl rfl (by decide) hP hD
                                                      have hP : va_P (dC, dI) vwCl ([(a_r_, .inl (g 0, n_r_, .inl r__9))] ++ (offS ad_129 tp_p_ hd_p_ tf_p_ cf_p_ g o_130)) H_128 := hP
                                                      have hD : va_D A ([(a_r_, .inl (g 0, n_r_, .inl r__9))] ++ (offS ad_129 tp_p_ hd_p_ tf_p_ cf_p_ g o_130)) := hD
                                                      refine W.widen (k := (kb390 + 1)) (n := (nb390 + 6)) (by omega) (by omega) ?_
                                                      refine lv_istore (lv' := [(5, .int r_128), (0, .ref t_p_)]) hx hb dL_areRefused_406 hl (by decide) rfl (fun ls hl => ?_)
                                                      refine lv_aload_n hx hb dL_areRefused_408 rfl (lv_at hl 1 rfl) ?_
                                                      refine lv_bipush (v := 6) hx hb dL_areRefused_409 (by decide) ?_
                                                      refine lv_bipush (v := 50) hx hb dL_areRefused_411 (by decide) ?_
                                                      refine lv_sipush (v := 200) hx hb dL_areRefused_413 (by decide) ?_
                                                      refine lv_aload_n hx hb dL_areRefused_416 rfl (lv_at hl 1 rfl) ?_
                                                      obtain ⟨hPs, hDs⟩ := seg_call (segs := [[(a_r_, .inl (g 0, n_r_, .inl r__9))], offS ad_129 tp_p_ hd_p_ tf_p_ cf_p_ g o_130]) [[(a_r_, .inl (g 0, n_r_, .inl r__9))]] [offS ad_129 tp_p_ hd_p_ tf_p_ cf_p_ g o_130] 2 [0, 1] rfl rfl (by decide) hP hD
                                                      have hPc : va_P (dC, dI) vwCl (offS ad_129 tp_p_ hd_p_ tf_p_ cf_p_ g o_130) H_128 := P_r hPs
                                                      have hDc : va_D A (offS ad_129 tp_p_ hd_p_ tf_p_ cf_p_ g o_130) := D_r hDs
                                                      have hFc : ∀ q, va_A (offS ad_129 tp_p_ hd_p_ tf_p_ cf_p_ g o_130) H_128.size q → A q := A_all hDc hA hS.1
                                                      refine vx_calli (vx_runV (As := []) (rest := [.int 200, .int 50, .int 6, .ref t_p_]) ⟨hx, hb, hml, hown, hts⟩ (p_records l hlf dC dI g tp_p_ hd_p_ tf_p_ cf_p_ htf_p_ hcf_p_ ad_129 t_p_ had_129 o_130 (hw := hw) (sz := H_128.size)) (cwV 0 hts (gqV aw_7_211 aw_7_212 aw_7_213 aw_1_1 aw_7_214) rfl rfl rfl (by decide +kernel) ⟨Nat.le_of_ble_eq_true rfl, Nat.le_of_ble_eq_true rfl⟩) ⟨PG_blind, off_recv had_129 hK hPc, PG_call hK hG hS hPc hDc hFc⟩ rfl rfl hl.1 rfl (lv_room (Nat.le_of_ble_eq_true rfl)) dL_areRefused_417 ⟨by rw [hrc]; omega, by rw [hrs]; omega⟩) hS (fun q _ h => hFc q h) hFc (fun q _ h => hFc q h) (fun E ce q9 ux t H1 locs1 ht hvm hp9 hB9 hz hk hS9 hce hcv hcl => ?_) (fun r_131 u_131 t_131 H_131 L_131 ht_131 hvm_131 hw_131 hB_131 hz_131 hk_131 hS => ?_)
                                                      · exact (hB9.1.1).elim
                                                      obtain ⟨ad_132, o_133⟩ := u_131
                                                      obtain ⟨hw, had_132⟩ := hw_131
                                                      rw [ht_131] at hB_131
                                                      obtain ⟨hP1, hD1⟩ := hB_131
                                                      obtain ⟨hP, hD⟩ := join_r hPs hDs hk_131 hFc hP1 hD1
                                                      obtain ⟨hP, hD⟩ := seg_join [[(a_r_, .inl (g 0, n_r_, .inl r__9))]] [offS ad_132 tp_p_ hd_p_ tf_p_ cf_p_ g o_133] [[(a_r_, .inl (g 0, n_r_, .inl r__9))], offS ad_132 tp_p_ hd_p_ tf_p_ cf_p_ g o_133] 2 [0, 1] rfl rfl (by decide) hP hD
                                                      have hP : va_P (dC, dI) vwCl ([(a_r_, .inl (g 0, n_r_, .inl r__9))] ++ (offS ad_132 tp_p_ hd_p_ tf_p_ cf_p_ g o_133)) H_131 := hP
                                                      have hD : va_D A ([(a_r_, .inl (g 0, n_r_, .inl r__9))] ++ (offS ad_132 tp_p_ hd_p_ tf_p_ cf_p_ g o_133)) := hD
                                                      refine W.widen (k := (kb390 + 1)) (n := (nb390 + 6)) (by omega) (by omega) ?_
                                                      refine lv_isub hx hb dL_areRefused_420 ?_
                                                      refine lv_topi (fun x_134 ex_134 => ?_)
                                                      have hw := hw x_134 ex_134
                                                      refine va_mmin hx hb (hml.trans hl.1.symm) hown hmmin127_0 hmmin127_1 hmmin127_2 hmmin127_3 (Nat.le_of_ble_eq_true rfl) (Nat.le_of_ble_eq_true rfl) (by rw [hrc]; omega) (by rw [hrs]; omega) dL_areRefused_421 ?_
                                                      refine lv_topi (fun x_135 ex_135 => ?_)
                                                      have hw := hw x_135 ex_135
                                                      refine lv_bipush (v := 10) hx hb dL_areRefused_424 (by decide) ?_
                                                      refine lv_iconst (v := 3) hx hb dL_areRefused_426 (by decide) ?_
                                                      obtain ⟨hPs, hDs⟩ := seg_call (segs := [[(a_r_, .inl (g 0, n_r_, .inl r__9))], offS ad_132 tp_p_ hd_p_ tf_p_ cf_p_ g o_133]) [[(a_r_, .inl (g 0, n_r_, .inl r__9))]] [offS ad_132 tp_p_ hd_p_ tf_p_ cf_p_ g o_133] 2 [0, 1] rfl rfl (by decide) hP hD
                                                      have hPc : va_P (dC, dI) vwCl (offS ad_132 tp_p_ hd_p_ tf_p_ cf_p_ g o_133) H_131 := P_r hPs
                                                      have hDc : va_D A (offS ad_132 tp_p_ hd_p_ tf_p_ cf_p_ g o_133) := D_r hDs
                                                      have hFc : ∀ q, va_A (offS ad_132 tp_p_ hd_p_ tf_p_ cf_p_ g o_133) H_131.size q → A q := A_all hDc hA hS.1
                                                      refine vx_calli (vx_runV (As := [.int 6, .int x_135, .int 10, .int 3]) (rest := []) ⟨hx, hb, hml, hown, hts⟩ (p_scatter l hlf dC dI g tp_p_ hd_p_ tf_p_ cf_p_ htf_p_ hcf_p_ ad_132 t_p_ had_132 o_133 6 x_135 10 3 (hw := hw) (sz := H_131.size)) (cwV 4 hts (gqV aw_3_119 aw_3_120 aw_3_121 aw_1_1 aw_3_122) rfl rfl rfl (by decide +kernel) ⟨Nat.le_of_ble_eq_true rfl, Nat.le_of_ble_eq_true rfl⟩) ⟨PG_blind, off_recv had_132 hK hPc, PG_call hK hG hS hPc hDc hFc⟩ rfl rfl hl.1 rfl (lv_room (Nat.le_of_ble_eq_true rfl)) dL_areRefused_427 ⟨by rw [hrc]; omega, by rw [hrs]; omega⟩) hS (fun q _ h => hFc q h) hFc (fun q _ h => hFc q h) (fun E ce q9 ux t H1 locs1 ht hvm hp9 hB9 hz hk hS9 hce hcv hcl => ?_) (fun r_136 u_136 t_136 H_136 L_136 ht_136 hvm_136 hw_136 hB_136 hz_136 hk_136 hS => ?_)
                                                      · exact (hB9.1.1).elim
                                                      obtain ⟨ad_137, o_138⟩ := u_136
                                                      obtain ⟨hw, had_137⟩ := hw_136
                                                      rw [ht_136] at hB_136
                                                      obtain ⟨hP1, hD1⟩ := hB_136
                                                      obtain ⟨hP, hD⟩ := join_r hPs hDs hk_136 hFc hP1 hD1
                                                      obtain ⟨hP, hD⟩ := seg_join [[(a_r_, .inl (g 0, n_r_, .inl r__9))]] [offS ad_137 tp_p_ hd_p_ tf_p_ cf_p_ g o_138] [[(a_r_, .inl (g 0, n_r_, .inl r__9))], offS ad_137 tp_p_ hd_p_ tf_p_ cf_p_ g o_138] 2 [0, 1] rfl rfl (by decide) hP hD
                                                      have hP : va_P (dC, dI) vwCl ([(a_r_, .inl (g 0, n_r_, .inl r__9))] ++ (offS ad_137 tp_p_ hd_p_ tf_p_ cf_p_ g o_138)) H_136 := hP
                                                      have hD : va_D A ([(a_r_, .inl (g 0, n_r_, .inl r__9))] ++ (offS ad_137 tp_p_ hd_p_ tf_p_ cf_p_ g o_138)) := hD
                                                      refine W.widen (k := (kb390 + 5)) (n := (nb390 + 30)) (by omega) (by omega) ?_
                                                      refine lv_istore (lv' := [(5, .int r_136), (0, .ref t_p_)]) hx hb dL_areRefused_430 hl (by decide) rfl (fun ls hl => ?_)
                                                      refine lv_goto (tgt := 390) hx hb dL_areRefused_432 (by decide) ?_
                                                      refine W.widen (k := (576 - n390 * 5)) (n := (3456 - n390 * 30)) (by omega) (by omega) ?_
                                                      exact ih390 o_138 ad_137 had_137 _ _ hw hP hD hS _ (lv_sub hl [1] rfl)
                                                obtain ⟨n390, hle390, hw⟩ := hw
                                                refine W.widen (k := (576 - n390 * 5)) (n := (3456 - n390 * 30)) (by omega) (by omega) ?_
                                                exact LOOP390 n390 hle390 o_99 ad_98 had_98 _ _ hw hP hD hS _ (lv_sub hl [4] rfl)
                                              · have hw := hw.2 c_100
                                                refine lv_iconst (v := 0) hx hb dL_areRefused_385 (by decide) ?_
                                                refine W.widen (k := 591) (n := 3546) (by omega) (by omega) ?_
                                                subst hQM
                                                exact W.zret (v := 0) hx hb hr rfl (fun t ht hW => ⟨⟨_, (r__9, ad_98, o_99, ()), rfl, ⟨false, rfl, ⟨hw, had_98⟩⟩, ⟨P_at ht hP, hD⟩⟩, hS.F ht⟩) hS.2.2 dL_areRefused_386
                    · have hw := hw.2 c_48
                      refine lv_iconst (v := 0) hx hb dL_areRefused_191 (by decide) ?_
                      refine W.widen (k := 591) (n := 3546) (by omega) (by omega) ?_
                      subst hQM
                      exact W.zret (v := 0) hx hb hr rfl (fun t ht hW => ⟨⟨_, (r__9, ad_46, o_47, ()), rfl, ⟨false, rfl, ⟨hw, had_46⟩⟩, ⟨P_at ht hP, hD⟩⟩, hS.F ht⟩) hS.2.2 dL_areRefused_192
  refine lv_if_ne (tgt := 19) hx hb dL_areRefused_5 (by decide) (fun c_139 => ?_) (fun c_139 => ?_)
  · have hw := hw.2 c_139
    refine lv_iconst (v := (-1)) hx hb dL_areRefused_19 (by decide) ?_
    refine lv_aload_n hx hb dL_areRefused_20 rfl (lv_at hl 1 rfl) ?_
    refine lv_iconst (v := 3) hx hb dL_areRefused_21 (by decide) ?_
    obtain ⟨hPs, hDs⟩ := seg_call (segs := [[(a_r_, .inl (g 0, n_r_, .inl r__2))], offS a_p_ tp_p_ hd_p_ tf_p_ cf_p_ g o_p_]) [offS a_p_ tp_p_ hd_p_ tf_p_ cf_p_ g o_p_] [[(a_r_, .inl (g 0, n_r_, .inl r__2))]] 2 [1, 0] rfl rfl (by decide) hP hD
    have hPc : va_P (dC, dI) vwCl [(a_r_, .inl (g 0, n_r_, .inl r__2))] H_1 := P_r hPs
    have hDc : va_D A [(a_r_, .inl (g 0, n_r_, .inl r__2))] := D_r hDs
    have hFc : ∀ q, va_A [(a_r_, .inl (g 0, n_r_, .inl r__2))] H_1.size q → A q := A_all hDc hA hS.1
    refine va_calli (va_runS (As := [.ref a_r_, .int 3]) (rest := [.int (-1)]) ⟨hx, hb, hml, hown, hts⟩ (c_L_draw l hlf dC dI g (a_r_ := a_r_) (n_r_ := n_r_) (r_ := r__2) (many := 3) (hw := hw) (sz := H_1.size)) (va_cwS 2 hts (gqS aw_2_215 aw_2_216 aw_1_0 aw_2_217) rfl rfl rfl (by decide +kernel) ⟨Nat.le_of_ble_eq_true rfl, Nat.le_of_ble_eq_true rfl⟩) ⟨PG_blind, PG_call hK hG hS hPc hDc hFc⟩ rfl rfl hl.1 rfl (lv_room (Nat.le_of_ble_eq_true rfl)) dL_areRefused_22 ⟨by rw [hrc]; omega, by rw [hrs]; omega⟩) hS (fun q _ h => hFc q h) hFc (fun r_140 u_140 t_140 H_140 L_140 ht_140 hvm_140 hw_140 hB_140 hz_140 hk_140 hS => ?_)
    obtain ⟨r__141, u_140⟩ := u_140
    have hw := hw_140
    rw [ht_140] at hB_140
    obtain ⟨hP1, hD1⟩ := hB_140
    obtain ⟨hP, hD⟩ := join_r hPs hDs hk_140 hFc hP1 hD1
    obtain ⟨hP, hD⟩ := seg_join [offS a_p_ tp_p_ hd_p_ tf_p_ cf_p_ g o_p_] [[(a_r_, .inl (g 0, n_r_, .inl r__141))]] [[(a_r_, .inl (g 0, n_r_, .inl r__141))], offS a_p_ tp_p_ hd_p_ tf_p_ cf_p_ g o_p_] 2 [1, 0] rfl rfl (by decide) hP hD
    have hP : va_P (dC, dI) vwCl ([(a_r_, .inl (g 0, n_r_, .inl r__141))] ++ (offS a_p_ tp_p_ hd_p_ tf_p_ cf_p_ g o_p_)) H_140 := hP
    have hD : va_D A ([(a_r_, .inl (g 0, n_r_, .inl r__141))] ++ (offS a_p_ tp_p_ hd_p_ tf_p_ cf_p_ g o_p_)) := hD
    refine W.widen (k := 0) (n := 0) (by omega) (by omega) ?_
    refine lv_isub hx hb dL_areRefused_25 ?_
    refine lv_topi (fun x_142 ex_142 => ?_)
    have hw := hw x_142 ex_142
    refine W.widen (k := 0) (n := 0) (by omega) (by omega) ?_
    exact JN26 x_142 r__141 _ _ hw hP hD hS _ (lv_sub hl [0, 1] rfl)
  · have hw := hw.1 c_139
    refine lv_bipush (v := 8) hx hb dL_areRefused_8 (by decide) ?_
    refine lv_aload_n hx hb dL_areRefused_10 rfl (lv_at hl 1 rfl) ?_
    refine lv_iconst (v := 3) hx hb dL_areRefused_11 (by decide) ?_
    obtain ⟨hPs, hDs⟩ := seg_call (segs := [[(a_r_, .inl (g 0, n_r_, .inl r__2))], offS a_p_ tp_p_ hd_p_ tf_p_ cf_p_ g o_p_]) [offS a_p_ tp_p_ hd_p_ tf_p_ cf_p_ g o_p_] [[(a_r_, .inl (g 0, n_r_, .inl r__2))]] 2 [1, 0] rfl rfl (by decide) hP hD
    have hPc : va_P (dC, dI) vwCl [(a_r_, .inl (g 0, n_r_, .inl r__2))] H_1 := P_r hPs
    have hDc : va_D A [(a_r_, .inl (g 0, n_r_, .inl r__2))] := D_r hDs
    have hFc : ∀ q, va_A [(a_r_, .inl (g 0, n_r_, .inl r__2))] H_1.size q → A q := A_all hDc hA hS.1
    refine va_calli (va_runS (As := [.ref a_r_, .int 3]) (rest := [.int 8]) ⟨hx, hb, hml, hown, hts⟩ (c_L_draw l hlf dC dI g (a_r_ := a_r_) (n_r_ := n_r_) (r_ := r__2) (many := 3) (hw := hw) (sz := H_1.size)) (va_cwS 2 hts (gqS aw_2_215 aw_2_216 aw_1_0 aw_2_217) rfl rfl rfl (by decide +kernel) ⟨Nat.le_of_ble_eq_true rfl, Nat.le_of_ble_eq_true rfl⟩) ⟨PG_blind, PG_call hK hG hS hPc hDc hFc⟩ rfl rfl hl.1 rfl (lv_room (Nat.le_of_ble_eq_true rfl)) dL_areRefused_12 ⟨by rw [hrc]; omega, by rw [hrs]; omega⟩) hS (fun q _ h => hFc q h) hFc (fun r_143 u_143 t_143 H_143 L_143 ht_143 hvm_143 hw_143 hB_143 hz_143 hk_143 hS => ?_)
    obtain ⟨r__144, u_143⟩ := u_143
    have hw := hw_143
    rw [ht_143] at hB_143
    obtain ⟨hP1, hD1⟩ := hB_143
    obtain ⟨hP, hD⟩ := join_r hPs hDs hk_143 hFc hP1 hD1
    obtain ⟨hP, hD⟩ := seg_join [offS a_p_ tp_p_ hd_p_ tf_p_ cf_p_ g o_p_] [[(a_r_, .inl (g 0, n_r_, .inl r__144))]] [[(a_r_, .inl (g 0, n_r_, .inl r__144))], offS a_p_ tp_p_ hd_p_ tf_p_ cf_p_ g o_p_] 2 [1, 0] rfl rfl (by decide) hP hD
    have hP : va_P (dC, dI) vwCl ([(a_r_, .inl (g 0, n_r_, .inl r__144))] ++ (offS a_p_ tp_p_ hd_p_ tf_p_ cf_p_ g o_p_)) H_143 := hP
    have hD : va_D A ([(a_r_, .inl (g 0, n_r_, .inl r__144))] ++ (offS a_p_ tp_p_ hd_p_ tf_p_ cf_p_ g o_p_)) := hD
    refine W.widen (k := 0) (n := 0) (by omega) (by omega) ?_
    refine lv_iadd hx hb dL_areRefused_15 ?_
    refine lv_topi (fun x_145 ex_145 => ?_)
    have hw := hw x_145 ex_145
    refine lv_goto (tgt := 26) hx hb dL_areRefused_16 (by decide) ?_
    refine W.widen (k := 0) (n := 0) (by omega) (by omega) ?_
    exact JN26 x_145 r__144 _ _ hw hP hD hS _ (lv_sub hl [0, 1] rfl)
theorem dL_says_0 : decode cL_says 0 = .ok (.aload_n 0, 1) := by decide +kernel
theorem dL_says_1 : decode cL_says 1 = .ok (.invokevirtual 198, 3) := by decide +kernel
theorem dL_says_4 : decode cL_says 4 = .ok (.istore_n 2, 1) := by decide +kernel
theorem dL_says_5 : decode cL_says 5 = .ok (.iconst 0, 1) := by decide +kernel
theorem dL_says_6 : decode cL_says 6 = .ok (.istore_n 3, 1) := by decide +kernel
theorem dL_says_54 : decode cL_says 54 = .ok (.return_, 1) := by decide +kernel
theorem dL_says_7 : decode cL_says 7 = .ok (.iload_n 3, 1) := by decide +kernel
theorem dL_says_8 : decode cL_says 8 = .ok (.aload_n 1, 1) := by decide +kernel
theorem dL_says_9 : decode cL_says 9 = .ok (.invokeinterface 201 1, 5) := by decide +kernel
theorem dL_says_14 : decode cL_says 14 = .ok (.if_icmp .ge 40, 3) := by decide +kernel
theorem dL_says_17 : decode cL_says 17 = .ok (.iload_n 2, 1) := by decide +kernel
theorem dL_says_18 : decode cL_says 18 = .ok (.ifCond .lt 36, 3) := by decide +kernel
theorem dL_says_21 : decode cL_says 21 = .ok (.aload_n 0, 1) := by decide +kernel
theorem dL_says_22 : decode cL_says 22 = .ok (.bipush 17, 2) := by decide +kernel
theorem dL_says_24 : decode cL_says 24 = .ok (.aload_n 1, 1) := by decide +kernel
theorem dL_says_25 : decode cL_says 25 = .ok (.iload_n 3, 1) := by decide +kernel
theorem dL_says_26 : decode cL_says 26 = .ok (.invokeinterface 205 2, 5) := by decide +kernel
theorem dL_says_31 : decode cL_says 31 = .ok (.iconst 0, 1) := by decide +kernel
theorem dL_says_32 : decode cL_says 32 = .ok (.iconst 0, 1) := by decide +kernel
theorem dL_says_33 : decode cL_says 33 = .ok (.invokestatic 140, 3) := by decide +kernel
theorem dL_says_36 : decode cL_says 36 = .ok (.sipush (-20004), 3) := by decide +kernel
theorem dL_says_39 : decode cL_says 39 = .ok (.if_icmp .ne 7, 3) := by decide +kernel
theorem dL_says_46 : decode cL_says 46 = .ok (.iload_n 2, 1) := by decide +kernel
theorem dL_says_47 : decode cL_says 47 = .ok (.istore_n 2, 1) := by decide +kernel
theorem dL_says_48 : decode cL_says 48 = .ok (.iinc 3 1, 3) := by decide +kernel
theorem dL_says_51 : decode cL_says 51 = .ok (.goto (-44), 3) := by decide +kernel
theorem dL_says_42 : decode cL_says 42 = .ok (.iconst (-1), 1) := by decide +kernel
theorem dL_says_43 : decode cL_says 43 = .ok (.goto 4, 3) := by decide +kernel

set_option maxHeartbeats 8000000 in
set_option maxRecDepth 100000 in
theorem c_L_says_t (l : Launch) (hlf : l.stackTraces = false) (dC : Nat → ClassId) (dI : Nat → Nat → Nat) (g : Nat → ClassId) (tp_p_ hd_p_ : Nat → Nat) (tf_p_ cf_p_ : Nat → Option Nat) (htf_p_ : ∀ j, j < 8 → tf_p_ j = some (tp_p_ j)) (hcf_p_ : ∀ j, j < 8 → cf_p_ j = some (tp_p_ (8 + j))) (a_p_ : Nat → Nat) (t_p_ : Nat) (h_p_ : a_p_ 0 = t_p_) (o_p_ : OS) (a_text text_n : Nat) (text_f : Nat → Int32) (Q : OS → Prop) (hw : wp_L_says_t o_p_ text_n text_f Q) (sz : Nat) : Met l yL_says wqL_says ({ frames := 8, cells := 170, slots := 1020, locals := 132 }) (va_Pc [.ref t_p_, .ref a_text] (PX (GSb text_n text_f a_text) (dC, dI) g (offS a_p_ tp_p_ hd_p_ tf_p_ cf_p_ g o_p_) sz)) (va_Qv (fun (u : (Nat → Nat) × OS × Unit) => Q u.2.1 ∧ u.1 0 = t_p_) (fun (u : (Nat → Nat) × OS × Unit) t9 => va_P (dC, dI) vwCl (offS u.1 tp_p_ hd_p_ tf_p_ cf_p_ g u.2.1) t9.heap ∧ va_D (va_A (offS a_p_ tp_p_ hd_p_ tf_p_ cf_p_ g o_p_) sz) (offS u.1 tp_p_ hd_p_ tf_p_ cf_p_ g u.2.1)) (va_A (offS a_p_ tp_p_ hd_p_ tf_p_ cf_p_ g o_p_) sz)) 170 1020 (va_A (offS a_p_ tp_p_ hd_p_ tf_p_ cf_p_ g o_p_) sz) := by
  refine Met.ofW (cc := cL_says) (maxL := 4) (ret := none) (by decide) rfl ?_
  intro p e s m args below meth c s₁ B hml hv
  obtain ⟨rfl, ⟨hsz, hP, hK, hD0, hG⟩, hT⟩ := hv
  have hx := B.exec
  have hb := B.bytes
  have hr := B.returns
  have hts := atoms_spec (ws := wqL_says) B.pre
  have hown : s.vm.findClass RL = some m.cls := findClass_of_methodNamed B.named
  have hlocks := B.notSynchronized
  subst hsz
  have hD := hD0.self (sz := s.heap.size)
  generalize hAe : va_A (offS a_p_ tp_p_ hd_p_ tf_p_ cf_p_ g o_p_) s.heap.size = A at hD hG hT ⊢
  have hA : ∀ q : Nat, s.heap.size ≤ q → A q := fun q h => by rw [← hAe]; exact Or.inr h
  have hS : va_S A s.heap s.heap [] := va_S.rf
  have hrc : (headSpec wqL_says ({ frames := 8, cells := 170, slots := 1020, locals := 132 })).room.cells = 170 := rfl
  have hrs : (headSpec wqL_says ({ frames := 8, cells := 170, slots := 1020, locals := 132 })).room.slots = 1020 := rfl
  have hl := lv_entry ([.ref t_p_, .ref a_text]) (n := 4) (Nat.le_of_ble_eq_true rfl)
  rw [lg_entry_eq]
  generalize (lg_sl ([.ref t_p_, .ref a_text]) ++ List.replicate (4 - (lg_sl ([.ref t_p_, .ref a_text])).length) Slot.unset).toArray = ls at hl ⊢
  have hl : lv_has ls 4 [(0, .ref t_p_), (1, .ref a_text)] := hl
  unfold wp_L_says_t at hw
  refine lv_aload_n hx hb dL_says_0 rfl (lv_at hl 0 rfl) ?_
  obtain ⟨hPs, hDs⟩ := seg_call (segs := [offS a_p_ tp_p_ hd_p_ tf_p_ cf_p_ g o_p_]) [] [offS a_p_ tp_p_ hd_p_ tf_p_ cf_p_ g o_p_] 1 [0] rfl rfl (by decide) hP hD
  have hPc : va_P (dC, dI) vwCl (offS a_p_ tp_p_ hd_p_ tf_p_ cf_p_ g o_p_) s.heap := P_r hPs
  have hDc : va_D A (offS a_p_ tp_p_ hd_p_ tf_p_ cf_p_ g o_p_) := D_r hDs
  have hFc : ∀ q, va_A (offS a_p_ tp_p_ hd_p_ tf_p_ cf_p_ g o_p_) s.heap.size q → A q := A_all hDc hA hS.1
  refine vx_calli (vx_runV (As := []) (rest := []) ⟨hx, hb, hml, hown, hts⟩ (p_clearText l hlf dC dI g tp_p_ hd_p_ tf_p_ cf_p_ htf_p_ hcf_p_ a_p_ t_p_ h_p_ o_p_ (hw := hw) (sz := s.heap.size)) (cwV 0 hts (gqV aw_7_135 aw_7_136 aw_7_137 aw_1_1 aw_7_138) rfl rfl rfl (by decide +kernel) ⟨Nat.le_of_ble_eq_true rfl, Nat.le_of_ble_eq_true rfl⟩) ⟨PG_blind, off_recv h_p_ hK hPc, PG_call hK hG hS hPc hDc hFc⟩ rfl rfl hl.1 rfl (lv_room (Nat.le_of_ble_eq_true rfl)) dL_says_1 ⟨by rw [hrc]; omega, by rw [hrs]; omega⟩) hS (fun q _ h => hFc q h) hFc (fun q _ h => hFc q h) (fun E ce q9 ux t H1 locs1 ht hvm hp9 hB9 hz hk hS9 hce hcv hcl => ?_) (fun r_1 u_1 t_1 H_1 L_1 ht_1 hvm_1 hw_1 hB_1 hz_1 hk_1 hS => ?_)
  · exact (hB9.1.1).elim
  obtain ⟨ad_2, o_3⟩ := u_1
  obtain ⟨hw, had_2⟩ := hw_1
  rw [ht_1] at hB_1
  obtain ⟨hP1, hD1⟩ := hB_1
  obtain ⟨hP, hD⟩ := join_r hPs hDs hk_1 hFc hP1 hD1
  obtain ⟨hP, hD⟩ := seg_join [] [offS ad_2 tp_p_ hd_p_ tf_p_ cf_p_ g o_3] [offS ad_2 tp_p_ hd_p_ tf_p_ cf_p_ g o_3] 1 [0] rfl rfl (by decide) hP hD
  have hP : va_P (dC, dI) vwCl (offS ad_2 tp_p_ hd_p_ tf_p_ cf_p_ g o_3) H_1 := hP
  have hD : va_D A (offS ad_2 tp_p_ hd_p_ tf_p_ cf_p_ g o_3) := hD
  refine W.widen (k := 0) (n := 0) (by omega) (by omega) ?_
  refine lv_istore_n (lv' := [(2, .int r_1), (0, .ref t_p_), (1, .ref a_text)]) hx hb dL_says_4 rfl hl (by decide) rfl (fun ls hl => ?_)
  refine lv_iconst (v := 0) hx hb dL_says_5 (by decide) ?_
  refine lv_istore_n (lv' := [(3, .int 0), (2, .int r_1), (0, .ref t_p_), (1, .ref a_text)]) hx hb dL_says_6 rfl hl (by decide) rfl (fun ls hl => ?_)
  refine W_abs (fun QM hQM => ?_)
  have EX7_54 : ∀ (o_8 : OS) (ad_9 : Nat → Nat) (had_9 : ad_9 0 = t_p_) (H : Heap) (locs : List Loc), (wx_L_says_t_7_54 Q) o_8 → va_P (dC, dI) vwCl (offS ad_9 tp_p_ hd_p_ tf_p_ cf_p_ g o_8) H → va_D A (offS ad_9 tp_p_ hd_p_ tf_p_ cf_p_ g o_8) → va_S A s.heap H locs → ∀ (ls : Array Slot), lv_has ls 4 [] → W p l e (headSpec wqL_says ({ frames := 8, cells := 170, slots := 1020, locals := 132 })).room s m ([.ref t_p_, .ref a_text] : List Value).toArray below meth c H locs 170 1020 QM (F0 m 54 ls []) := by
    intro o_8 ad_9 had_9 H locs hw hP hD hS ls hl
    refine W.widen (k := 170) (n := 1020) (by omega) (by omega) ?_
    subst hQM
    exact W.vret hx hb hr (fun t ht hW => ⟨⟨(ad_9, o_8, ()), rfl, ⟨hw, had_9⟩, ⟨P_at ht hP, hD⟩⟩, hS.F ht⟩) hS.2.2 dL_says_54
  have LOOP7 : ∀ (n7 : Nat), n7 ≤ 170 → ∀ (v3_4 : Int32) (o_5 : OS) (v2_6 : Int32) (ad_7 : Nat → Nat) (had_7 : ad_7 0 = t_p_) (H : Heap) (locs : List Loc), wl_L_says_t_7 text_n text_f (wx_L_says_t_7_54 Q) n7 v3_4 o_5 v2_6 → va_P (dC, dI) vwCl (offS ad_7 tp_p_ hd_p_ tf_p_ cf_p_ g o_5) H → va_D A (offS ad_7 tp_p_ hd_p_ tf_p_ cf_p_ g o_5) → va_S A s.heap H locs → ∀ (ls : Array Slot), lv_has ls 4 [(0, .ref t_p_), (1, .ref a_text), (2, .int v2_6), (3, .int v3_4)] → W p l e (headSpec wqL_says ({ frames := 8, cells := 170, slots := 1020, locals := 132 })).room s m ([.ref t_p_, .ref a_text] : List Value).toArray below meth c H locs (170 - n7 * 1) (1020 - n7 * 6) QM (F0 m 7 ls []) := by
    intro n7
    induction n7 with
    | zero =>
      intro hle_n7
      intro v3_4 o_5 v2_6 ad_7 had_7 H locs hw hP hD hS ls hl
      exact False.elim hw
    | succ n7 ih7 =>
      intro hle_n7
      have ih7 := ih7 (by omega)
      intro v3_4 o_5 v2_6 ad_7 had_7 H locs hw hP hD hS ls hl
      rw [wl_L_says_t_7_s] at hw
      obtain ⟨kb7, hkb7⟩ : ∃ x : Nat, x = 170 - (n7 + 1) * 1 := ⟨_, rfl⟩
      obtain ⟨nb7, hnb7⟩ : ∃ x : Nat, x = 1020 - (n7 + 1) * 6 := ⟨_, rfl⟩
      refine W.widen (k := kb7) (n := nb7) (by omega) (by omega) ?_
      refine lv_iload_n hx hb dL_says_7 rfl (lv_at hl 3 rfl) ?_
      refine lv_aload_n hx hb dL_says_8 rfl (lv_at hl 1 rfl) ?_
      have hPs : va_P (dC, dI) vwCl (wcat [offS ad_7 tp_p_ hd_p_ tf_p_ cf_p_ g o_5] ++ wcat []) H := by rw [show wcat [] = [] from rfl, List.append_nil]; exact hP
      have hDs : va_D A (wcat [offS ad_7 tp_p_ hd_p_ tf_p_ cf_p_ g o_5] ++ wcat []) := by rw [show wcat [] = [] from rfl, List.append_nil]; exact hD
      have hPc : va_P (dC, dI) vwCl [] H := P_r hPs
      have hDc : va_D A [] := D_r hDs
      have hFc : ∀ q, va_A [] H.size q → A q := A_all hDc hA hS.1
      refine va_callFi (va_runF (As := []) (rest := [.int v3_4]) (hK.1 0 _ rfl).2 ⟨hx, hb, hml, hown, hts⟩ (c_J0_length_8abf5 l dC dI g (a_this_ := a_text) (this__n := text_n) (this__f := text_f) (hw := hw) (sz := H.size)) (va_cwF 0 hts (gqF aw_7_144 aw_7_148 aw_5_81 aw_1_21 aw_5_83) rfl rfl rfl (fw_0 hG) (by decide +kernel) ⟨Nat.le_of_ble_eq_true rfl, Nat.le_of_ble_eq_true rfl⟩) ⟨PX_blind (GSb_go text_n text_f a_text), GSb_recv hT hS, PX_call (GSb_go text_n text_f a_text) hK hG hS hPc hDc hFc hT⟩ rfl rfl hl.1 rfl (lv_room (Nat.le_of_ble_eq_true rfl)) dL_says_9 ⟨by rw [hrc]; omega, by rw [hrs]; omega⟩) hS (fun q _ h => hFc q h) hFc (fun r_11 u_11 t_11 H_11 L_11 ht_11 hvm_11 hw_11 hB_11 hz_11 hk_11 hS => ?_)
      have hw := hw_11
      rw [ht_11] at hB_11
      obtain ⟨hP1, hD1⟩ := hB_11
      obtain ⟨hP, hD⟩ := join_r hPs hDs hk_11 hFc hP1 hD1
      rw [List.append_nil] at hP hD
      have hP : va_P (dC, dI) vwCl (offS ad_7 tp_p_ hd_p_ tf_p_ cf_p_ g o_5) H_11 := hP
      have hD : va_D A (offS ad_7 tp_p_ hd_p_ tf_p_ cf_p_ g o_5) := hD
      refine W.widen (k := (kb7 + 0)) (n := (nb7 + 0)) (by omega) (by omega) ?_
      refine lv_icmp_ge (tgt := 54) hx hb dL_says_14 (by decide) (fun c_12 => ?_) (fun c_12 => ?_)
      · have hw := hw.1 c_12
        refine W.widen (k := 170) (n := 1020) (by omega) (by omega) ?_
        exact EX7_54 o_5 ad_7 had_7 _ _ hw hP hD hS _ (lv_sub hl [] rfl)
      · have hw := hw.2 c_12
        refine lv_iload_n hx hb dL_says_17 rfl (lv_at hl 2 rfl) ?_
        refine lv_if_lt (tgt := 54) hx hb dL_says_18 (by decide) (fun c_13 => ?_) (fun c_13 => ?_)
        · have hw := hw.1 c_13
          refine W.widen (k := 170) (n := 1020) (by omega) (by omega) ?_
          exact EX7_54 o_5 ad_7 had_7 _ _ hw hP hD hS _ (lv_sub hl [] rfl)
        · have hw := hw.2 c_13
          refine lv_aload_n hx hb dL_says_21 rfl (lv_at hl 0 rfl) ?_
          refine lv_bipush (v := 17) hx hb dL_says_22 (by decide) ?_
          refine lv_aload_n hx hb dL_says_24 rfl (lv_at hl 1 rfl) ?_
          refine lv_iload_n hx hb dL_says_25 rfl (lv_at hl 3 rfl) ?_
          have hPs : va_P (dC, dI) vwCl (wcat [offS ad_7 tp_p_ hd_p_ tf_p_ cf_p_ g o_5] ++ wcat []) H_11 := by rw [show wcat [] = [] from rfl, List.append_nil]; exact hP
          have hDs : va_D A (wcat [offS ad_7 tp_p_ hd_p_ tf_p_ cf_p_ g o_5] ++ wcat []) := by rw [show wcat [] = [] from rfl, List.append_nil]; exact hD
          have hPc : va_P (dC, dI) vwCl [] H_11 := P_r hPs
          have hDc : va_D A [] := D_r hDs
          have hFc : ∀ q, va_A [] H_11.size q → A q := A_all hDc hA hS.1
          refine va_callFi (va_runF (As := [.int v3_4]) (rest := [.int 17, .ref t_p_]) (hK.1 0 _ rfl).2 ⟨hx, hb, hml, hown, hts⟩ (c_J0_charAt_5068e l dC dI g (a_this_ := a_text) (this__n := text_n) (this__f := text_f) (k_ := v3_4) (hw := hw) (sz := H_11.size)) (va_cwF 1 hts (gqF aw_7_156 aw_7_159 aw_5_91 aw_1_21 aw_5_93) rfl rfl rfl (fw_1 hG) (by decide +kernel) ⟨Nat.le_of_ble_eq_true rfl, Nat.le_of_ble_eq_true rfl⟩) ⟨PX_blind (GSb_go text_n text_f a_text), GSb_recv hT hS, PX_call (GSb_go text_n text_f a_text) hK hG hS hPc hDc hFc hT⟩ rfl rfl hl.1 rfl (lv_room (Nat.le_of_ble_eq_true rfl)) dL_says_26 ⟨by rw [hrc]; omega, by rw [hrs]; omega⟩) hS (fun q _ h => hFc q h) hFc (fun r_15 u_15 t_15 H_15 L_15 ht_15 hvm_15 hw_15 hB_15 hz_15 hk_15 hS => ?_)
          obtain ⟨hw, hn_r_15⟩ := hw_15
          rw [ht_15] at hB_15
          obtain ⟨hP1, hD1⟩ := hB_15
          obtain ⟨hP, hD⟩ := join_r hPs hDs hk_15 hFc hP1 hD1
          rw [List.append_nil] at hP hD
          have hP : va_P (dC, dI) vwCl (offS ad_7 tp_p_ hd_p_ tf_p_ cf_p_ g o_5) H_15 := hP
          have hD : va_D A (offS ad_7 tp_p_ hd_p_ tf_p_ cf_p_ g o_5) := hD
          refine W.widen (k := (kb7 + 0)) (n := (nb7 + 0)) (by omega) (by omega) ?_
          refine lv_iconst (v := 0) hx hb dL_says_31 (by decide) ?_
          refine lv_iconst (v := 0) hx hb dL_says_32 (by decide) ?_
          obtain ⟨hPs, hDs⟩ := seg_call (segs := [offS ad_7 tp_p_ hd_p_ tf_p_ cf_p_ g o_5]) [] [offS ad_7 tp_p_ hd_p_ tf_p_ cf_p_ g o_5] 1 [0] rfl rfl (by decide) hP hD
          have hPc : va_P (dC, dI) vwCl (offS ad_7 tp_p_ hd_p_ tf_p_ cf_p_ g o_5) H_15 := P_r hPs
          have hDc : va_D A (offS ad_7 tp_p_ hd_p_ tf_p_ cf_p_ g o_5) := D_r hDs
          have hFc : ∀ q, va_A (offS ad_7 tp_p_ hd_p_ tf_p_ cf_p_ g o_5) H_15.size q → A q := A_all hDc hA hS.1
          refine va_calli (vx_runSW (As := [.ref t_p_, .int 17, .int r_15, .int 0, .int 0]) (rest := []) ⟨hx, hb, hml, hown, hts⟩ (c_L_asks_17 l hlf dC dI g (tp_p_ := tp_p_) (hd_p_ := hd_p_) (tf_p_ := tf_p_) (cf_p_ := cf_p_) (htf_p_ := htf_p_) (hcf_p_ := hcf_p_) (a_p_ := ad_7) (t_p_ := t_p_) (h_p_ := had_7) (o_p_ := o_5) (a_ := r_15) (b_ := 0) (c_ := 0) (hw := hw) (sz := H_15.size)) (vx_cwSW 5 hts (gqS aw_4_45 aw_4_46 aw_1_0 aw_4_47) rfl rfl rfl (by decide +kernel) ⟨Nat.le_of_ble_eq_true rfl, Nat.le_of_ble_eq_true rfl⟩) ⟨PG_blind, PG_call hK hG hS hPc hDc hFc⟩ rfl rfl hl.1 rfl (lv_room (Nat.le_of_ble_eq_true rfl)) dL_says_33 ⟨by rw [hrc]; omega, by rw [hrs]; omega⟩) hS (fun q _ h => hFc q h) hFc (fun r_16 u_16 t_16 H_16 L_16 ht_16 hvm_16 hw_16 hB_16 hz_16 hk_16 hS => ?_)
          obtain ⟨ad_17, o_18, u_16⟩ := u_16
          obtain ⟨hw, had_17⟩ := hw_16
          rw [ht_16] at hB_16
          obtain ⟨hP1, hD1⟩ := hB_16
          obtain ⟨hP, hD⟩ := join_r hPs hDs hk_16 hFc hP1 hD1
          obtain ⟨hP, hD⟩ := seg_join [] [offS ad_17 tp_p_ hd_p_ tf_p_ cf_p_ g o_18] [offS ad_17 tp_p_ hd_p_ tf_p_ cf_p_ g o_18] 1 [0] rfl rfl (by decide) hP hD
          have hP : va_P (dC, dI) vwCl (offS ad_17 tp_p_ hd_p_ tf_p_ cf_p_ g o_18) H_16 := hP
          have hD : va_D A (offS ad_17 tp_p_ hd_p_ tf_p_ cf_p_ g o_18) := hD
          refine W.widen (k := (kb7 + 1)) (n := (nb7 + 6)) (by omega) (by omega) ?_
          refine lv_sipush (v := (-20004)) hx hb dL_says_36 (by decide) ?_
          refine lv_icmp_ne (tgt := 46) hx hb dL_says_39 (by decide) (fun c_19 => ?_) (fun c_19 => ?_)
          · have hw := hw.2 c_19
            refine lv_iload_n hx hb dL_says_46 rfl (lv_at hl 2 rfl) ?_
            refine lv_istore_n (lv' := [(2, .int v2_6), (0, .ref t_p_), (1, .ref a_text), (3, .int v3_4)]) hx hb dL_says_47 rfl hl (by decide) rfl (fun ls hl => ?_)
            obtain ⟨x_20, ex_20⟩ : ∃ y : Int32, y = v3_4 + 1 := ⟨_, rfl⟩
            have hw := hw x_20 ex_20
            refine lv_iinc (v := x_20) (lv' := [(3, .int x_20), (2, .int v2_6), (0, .ref t_p_), (1, .ref a_text)]) hx hb dL_says_48 hl (k := 3) rfl (by rw [ex_20]; rfl) (by decide) rfl (fun ls hl => ?_)
            refine lv_goto (tgt := 7) hx hb dL_says_51 (by decide) ?_
            refine W.widen (k := (170 - n7 * 1)) (n := (1020 - n7 * 6)) (by omega) (by omega) ?_
            exact ih7 x_20 o_18 v2_6 ad_17 had_17 _ _ hw hP hD hS _ (lv_sub hl [2, 3, 1, 0] rfl)
          · have hw := hw.1 c_19
            refine lv_iconst (v := (-1)) hx hb dL_says_42 (by decide) ?_
            refine lv_goto (tgt := 47) hx hb dL_says_43 (by decide) ?_
            refine lv_istore_n (lv' := [(2, .int (-1)), (0, .ref t_p_), (1, .ref a_text), (3, .int v3_4)]) hx hb dL_says_47 rfl hl (by decide) rfl (fun ls hl => ?_)
            obtain ⟨x_21, ex_21⟩ : ∃ y : Int32, y = v3_4 + 1 := ⟨_, rfl⟩
            have hw := hw x_21 ex_21
            refine lv_iinc (v := x_21) (lv' := [(3, .int x_21), (2, .int (-1)), (0, .ref t_p_), (1, .ref a_text)]) hx hb dL_says_48 hl (k := 3) rfl (by rw [ex_21]; rfl) (by decide) rfl (fun ls hl => ?_)
            refine lv_goto (tgt := 7) hx hb dL_says_51 (by decide) ?_
            refine W.widen (k := (170 - n7 * 1)) (n := (1020 - n7 * 6)) (by omega) (by omega) ?_
            exact ih7 x_21 o_18 (-1) ad_17 had_17 _ _ hw hP hD hS _ (lv_sub hl [2, 3, 1, 0] rfl)
  obtain ⟨n7, hle7, hw⟩ := hw
  refine W.widen (k := (170 - n7 * 1)) (n := (1020 - n7 * 6)) (by omega) (by omega) ?_
  exact LOOP7 n7 hle7 0 o_3 r_1 ad_2 had_2 _ _ hw hP hD hS _ (lv_sub hl [2, 3, 1, 0] rfl)


set_option maxHeartbeats 8000000 in
set_option maxRecDepth 100000 in
theorem c_L_says_b (l : Launch) (hlf : l.stackTraces = false) (dC : Nat → ClassId) (dI : Nat → Nat → Nat) (g : Nat → ClassId) (tp_p_ hd_p_ : Nat → Nat) (tf_p_ cf_p_ : Nat → Option Nat) (htf_p_ : ∀ j, j < 8 → tf_p_ j = some (tp_p_ j)) (hcf_p_ : ∀ j, j < 8 → cf_p_ j = some (tp_p_ (8 + j))) (a_p_ : Nat → Nat) (t_p_ : Nat) (h_p_ : a_p_ 0 = t_p_) (o_p_ : OS) (a_text v_text c_text : Nat) (f_text : Nat → Int32) (k_text : Int32) (Q : OS → Prop) (hw : wp_L_says_b o_p_ c_text f_text k_text Q) (sz : Nat) : Met l yL_says wqL_says ({ frames := 8, cells := 170, slots := 1020, locals := 132 }) (va_Pc [.ref t_p_, .ref a_text] (PG (dC, dI) g ([(a_text, .inr (1, [.ref v_text, .int 0, .int 0, .int k_text])), (v_text, .inl (g 2, c_text, .inl f_text))] ++ (offS a_p_ tp_p_ hd_p_ tf_p_ cf_p_ g o_p_)) sz)) (va_Qv (fun (u : (Nat → Nat) × OS × Unit) => Q u.2.1 ∧ u.1 0 = t_p_) (fun (u : (Nat → Nat) × OS × Unit) t9 => va_P (dC, dI) vwCl ([(a_text, .inr (1, [.ref v_text, .int 0, .int 0, .int k_text])), (v_text, .inl (g 2, c_text, .inl f_text))] ++ (offS u.1 tp_p_ hd_p_ tf_p_ cf_p_ g u.2.1)) t9.heap ∧ va_D (va_A ([(a_text, .inr (1, [.ref v_text, .int 0, .int 0, .int k_text])), (v_text, .inl (g 2, c_text, .inl f_text))] ++ (offS a_p_ tp_p_ hd_p_ tf_p_ cf_p_ g o_p_)) sz) ([(a_text, .inr (1, [.ref v_text, .int 0, .int 0, .int k_text])), (v_text, .inl (g 2, c_text, .inl f_text))] ++ (offS u.1 tp_p_ hd_p_ tf_p_ cf_p_ g u.2.1))) (va_A ([(a_text, .inr (1, [.ref v_text, .int 0, .int 0, .int k_text])), (v_text, .inl (g 2, c_text, .inl f_text))] ++ (offS a_p_ tp_p_ hd_p_ tf_p_ cf_p_ g o_p_)) sz)) 170 1020 (va_A ([(a_text, .inr (1, [.ref v_text, .int 0, .int 0, .int k_text])), (v_text, .inl (g 2, c_text, .inl f_text))] ++ (offS a_p_ tp_p_ hd_p_ tf_p_ cf_p_ g o_p_)) sz) := by
  refine Met.ofW (cc := cL_says) (maxL := 4) (ret := none) (by decide) rfl ?_
  intro p e s m args below meth c s₁ B hml hv
  obtain ⟨rfl, hsz, hP, hK, hD0, hG⟩ := hv
  have hx := B.exec
  have hb := B.bytes
  have hr := B.returns
  have hts := atoms_spec (ws := wqL_says) B.pre
  have hown : s.vm.findClass RL = some m.cls := findClass_of_methodNamed B.named
  have hlocks := B.notSynchronized
  subst hsz
  have hD := hD0.self (sz := s.heap.size)
  generalize hAe : va_A ([(a_text, .inr (1, [.ref v_text, .int 0, .int 0, .int k_text])), (v_text, .inl (g 2, c_text, .inl f_text))] ++ (offS a_p_ tp_p_ hd_p_ tf_p_ cf_p_ g o_p_)) s.heap.size = A at hD hG ⊢
  have hA : ∀ q : Nat, s.heap.size ≤ q → A q := fun q h => by rw [← hAe]; exact Or.inr h
  have hS : va_S A s.heap s.heap [] := va_S.rf
  have hrc : (headSpec wqL_says ({ frames := 8, cells := 170, slots := 1020, locals := 132 })).room.cells = 170 := rfl
  have hrs : (headSpec wqL_says ({ frames := 8, cells := 170, slots := 1020, locals := 132 })).room.slots = 1020 := rfl
  have hl := lv_entry ([.ref t_p_, .ref a_text]) (n := 4) (Nat.le_of_ble_eq_true rfl)
  rw [lg_entry_eq]
  generalize (lg_sl ([.ref t_p_, .ref a_text]) ++ List.replicate (4 - (lg_sl ([.ref t_p_, .ref a_text])).length) Slot.unset).toArray = ls at hl ⊢
  have hl : lv_has ls 4 [(0, .ref t_p_), (1, .ref a_text)] := hl
  unfold wp_L_says_b at hw
  refine lv_aload_n hx hb dL_says_0 rfl (lv_at hl 0 rfl) ?_
  obtain ⟨hPs, hDs⟩ := seg_call (segs := [[(a_text, .inr (1, [.ref v_text, .int 0, .int 0, .int k_text]))], [(v_text, .inl (g 2, c_text, .inl f_text))], offS a_p_ tp_p_ hd_p_ tf_p_ cf_p_ g o_p_]) [[(a_text, .inr (1, [.ref v_text, .int 0, .int 0, .int k_text]))], [(v_text, .inl (g 2, c_text, .inl f_text))]] [offS a_p_ tp_p_ hd_p_ tf_p_ cf_p_ g o_p_] 3 [0, 1, 2] rfl rfl (by decide) hP hD
  have hPc : va_P (dC, dI) vwCl (offS a_p_ tp_p_ hd_p_ tf_p_ cf_p_ g o_p_) s.heap := P_r hPs
  have hDc : va_D A (offS a_p_ tp_p_ hd_p_ tf_p_ cf_p_ g o_p_) := D_r hDs
  have hFc : ∀ q, va_A (offS a_p_ tp_p_ hd_p_ tf_p_ cf_p_ g o_p_) s.heap.size q → A q := A_all hDc hA hS.1
  refine vx_calli (vx_runV (As := []) (rest := []) ⟨hx, hb, hml, hown, hts⟩ (p_clearText l hlf dC dI g tp_p_ hd_p_ tf_p_ cf_p_ htf_p_ hcf_p_ a_p_ t_p_ h_p_ o_p_ (hw := hw) (sz := s.heap.size)) (cwV 0 hts (gqV aw_7_135 aw_7_136 aw_7_137 aw_1_1 aw_7_138) rfl rfl rfl (by decide +kernel) ⟨Nat.le_of_ble_eq_true rfl, Nat.le_of_ble_eq_true rfl⟩) ⟨PG_blind, off_recv h_p_ hK hPc, PG_call hK hG hS hPc hDc hFc⟩ rfl rfl hl.1 rfl (lv_room (Nat.le_of_ble_eq_true rfl)) dL_says_1 ⟨by rw [hrc]; omega, by rw [hrs]; omega⟩) hS (fun q _ h => hFc q h) hFc (fun q _ h => hFc q h) (fun E ce q9 ux t H1 locs1 ht hvm hp9 hB9 hz hk hS9 hce hcv hcl => ?_) (fun r_1 u_1 t_1 H_1 L_1 ht_1 hvm_1 hw_1 hB_1 hz_1 hk_1 hS => ?_)
  · exact (hB9.1.1).elim
  obtain ⟨ad_2, o_3⟩ := u_1
  obtain ⟨hw, had_2⟩ := hw_1
  rw [ht_1] at hB_1
  obtain ⟨hP1, hD1⟩ := hB_1
  obtain ⟨hP, hD⟩ := join_r hPs hDs hk_1 hFc hP1 hD1
  obtain ⟨hP, hD⟩ := seg_join [[(a_text, .inr (1, [.ref v_text, .int 0, .int 0, .int k_text]))], [(v_text, .inl (g 2, c_text, .inl f_text))]] [offS ad_2 tp_p_ hd_p_ tf_p_ cf_p_ g o_3] [[(a_text, .inr (1, [.ref v_text, .int 0, .int 0, .int k_text]))], [(v_text, .inl (g 2, c_text, .inl f_text))], offS ad_2 tp_p_ hd_p_ tf_p_ cf_p_ g o_3] 3 [0, 1, 2] rfl rfl (by decide) hP hD
  have hP : va_P (dC, dI) vwCl ([(a_text, .inr (1, [.ref v_text, .int 0, .int 0, .int k_text])), (v_text, .inl (g 2, c_text, .inl f_text))] ++ (offS ad_2 tp_p_ hd_p_ tf_p_ cf_p_ g o_3)) H_1 := hP
  have hD : va_D A ([(a_text, .inr (1, [.ref v_text, .int 0, .int 0, .int k_text])), (v_text, .inl (g 2, c_text, .inl f_text))] ++ (offS ad_2 tp_p_ hd_p_ tf_p_ cf_p_ g o_3)) := hD
  refine W.widen (k := 0) (n := 0) (by omega) (by omega) ?_
  refine lv_istore_n (lv' := [(2, .int r_1), (0, .ref t_p_), (1, .ref a_text)]) hx hb dL_says_4 rfl hl (by decide) rfl (fun ls hl => ?_)
  refine lv_iconst (v := 0) hx hb dL_says_5 (by decide) ?_
  refine lv_istore_n (lv' := [(3, .int 0), (2, .int r_1), (0, .ref t_p_), (1, .ref a_text)]) hx hb dL_says_6 rfl hl (by decide) rfl (fun ls hl => ?_)
  refine W_abs (fun QM hQM => ?_)
  have EX7_54 : ∀ (o_8 : OS) (ad_9 : Nat → Nat) (had_9 : ad_9 0 = t_p_) (H : Heap) (locs : List Loc), (wx_L_says_b_7_54 Q) o_8 → va_P (dC, dI) vwCl ([(a_text, .inr (1, [.ref v_text, .int 0, .int 0, .int k_text])), (v_text, .inl (g 2, c_text, .inl f_text))] ++ (offS ad_9 tp_p_ hd_p_ tf_p_ cf_p_ g o_8)) H → va_D A ([(a_text, .inr (1, [.ref v_text, .int 0, .int 0, .int k_text])), (v_text, .inl (g 2, c_text, .inl f_text))] ++ (offS ad_9 tp_p_ hd_p_ tf_p_ cf_p_ g o_8)) → va_S A s.heap H locs → ∀ (ls : Array Slot), lv_has ls 4 [] → W p l e (headSpec wqL_says ({ frames := 8, cells := 170, slots := 1020, locals := 132 })).room s m ([.ref t_p_, .ref a_text] : List Value).toArray below meth c H locs 170 1020 QM (F0 m 54 ls []) := by
    intro o_8 ad_9 had_9 H locs hw hP hD hS ls hl
    refine W.widen (k := 170) (n := 1020) (by omega) (by omega) ?_
    subst hQM
    exact W.vret hx hb hr (fun t ht hW => ⟨⟨(ad_9, o_8, ()), rfl, ⟨hw, had_9⟩, ⟨P_at ht hP, hD⟩⟩, hS.F ht⟩) hS.2.2 dL_says_54
  have LOOP7 : ∀ (n7 : Nat), n7 ≤ 170 → ∀ (v3_4 : Int32) (o_5 : OS) (v2_6 : Int32) (ad_7 : Nat → Nat) (had_7 : ad_7 0 = t_p_) (H : Heap) (locs : List Loc), wl_L_says_b_7 c_text f_text k_text (wx_L_says_b_7_54 Q) n7 v3_4 o_5 v2_6 → va_P (dC, dI) vwCl ([(a_text, .inr (1, [.ref v_text, .int 0, .int 0, .int k_text])), (v_text, .inl (g 2, c_text, .inl f_text))] ++ (offS ad_7 tp_p_ hd_p_ tf_p_ cf_p_ g o_5)) H → va_D A ([(a_text, .inr (1, [.ref v_text, .int 0, .int 0, .int k_text])), (v_text, .inl (g 2, c_text, .inl f_text))] ++ (offS ad_7 tp_p_ hd_p_ tf_p_ cf_p_ g o_5)) → va_S A s.heap H locs → ∀ (ls : Array Slot), lv_has ls 4 [(0, .ref t_p_), (1, .ref a_text), (2, .int v2_6), (3, .int v3_4)] → W p l e (headSpec wqL_says ({ frames := 8, cells := 170, slots := 1020, locals := 132 })).room s m ([.ref t_p_, .ref a_text] : List Value).toArray below meth c H locs (170 - n7 * 1) (1020 - n7 * 6) QM (F0 m 7 ls []) := by
    intro n7
    induction n7 with
    | zero =>
      intro hle_n7
      intro v3_4 o_5 v2_6 ad_7 had_7 H locs hw hP hD hS ls hl
      exact False.elim hw
    | succ n7 ih7 =>
      intro hle_n7
      have ih7 := ih7 (by omega)
      intro v3_4 o_5 v2_6 ad_7 had_7 H locs hw hP hD hS ls hl
      rw [wl_L_says_b_7_s] at hw
      obtain ⟨kb7, hkb7⟩ : ∃ x : Nat, x = 170 - (n7 + 1) * 1 := ⟨_, rfl⟩
      obtain ⟨nb7, hnb7⟩ : ∃ x : Nat, x = 1020 - (n7 + 1) * 6 := ⟨_, rfl⟩
      refine W.widen (k := kb7) (n := nb7) (by omega) (by omega) ?_
      refine lv_iload_n hx hb dL_says_7 rfl (lv_at hl 3 rfl) ?_
      refine lv_aload_n hx hb dL_says_8 rfl (lv_at hl 1 rfl) ?_
      obtain ⟨hPs, hDs⟩ := seg_call (segs := [[(a_text, .inr (1, [.ref v_text, .int 0, .int 0, .int k_text]))], [(v_text, .inl (g 2, c_text, .inl f_text))], offS ad_7 tp_p_ hd_p_ tf_p_ cf_p_ g o_5]) [offS ad_7 tp_p_ hd_p_ tf_p_ cf_p_ g o_5] [[(a_text, .inr (1, [.ref v_text, .int 0, .int 0, .int k_text]))], [(v_text, .inl (g 2, c_text, .inl f_text))]] 3 [2, 0, 1] rfl rfl (by decide) hP hD
      have hPc : va_P (dC, dI) vwCl [(a_text, .inr (1, [.ref v_text, .int 0, .int 0, .int k_text])), (v_text, .inl (g 2, c_text, .inl f_text))] H := P_r hPs
      have hDc : va_D A [(a_text, .inr (1, [.ref v_text, .int 0, .int 0, .int k_text])), (v_text, .inl (g 2, c_text, .inl f_text))] := D_r hDs
      have hFc : ∀ q, va_A [(a_text, .inr (1, [.ref v_text, .int 0, .int 0, .int k_text])), (v_text, .inl (g 2, c_text, .inl f_text))] H.size q → A q := A_all hDc hA hS.1
      refine va_callFi (va_runF (As := []) (rest := [.int v3_4]) (hK.1 1 _ rfl).2 ⟨hx, hb, hml, hown, hts⟩ (c_J4_length_8abf5 l dC dI g (a_this_ := a_text) (v_this_ := v_text) (c_this_ := c_text) (f_this_ := f_text) (k_this_ := k_text) (hw := hw) (sz := H.size)) (va_cwF 0 hts (gqF aw_7_144 aw_7_152 aw_7_10 aw_1_26 aw_7_12) rfl rfl rfl (fw_2 hG) (by decide +kernel) ⟨Nat.le_of_ble_eq_true rfl, Nat.le_of_ble_eq_true rfl⟩) ⟨PG_blind, va_recv hK hP (ci := 1) (q0 := 0) rfl rfl, PG_call hK hG hS hPc hDc hFc⟩ rfl rfl hl.1 rfl (lv_room (Nat.le_of_ble_eq_true rfl)) dL_says_9 ⟨by rw [hrc]; omega, by rw [hrs]; omega⟩) hS (fun q _ h => hFc q h) hFc (fun r_11 u_11 t_11 H_11 L_11 ht_11 hvm_11 hw_11 hB_11 hz_11 hk_11 hS => ?_)
      have hw := hw_11
      rw [ht_11] at hB_11
      obtain ⟨hP1, hD1⟩ := hB_11
      obtain ⟨hP, hD⟩ := join_r hPs hDs hk_11 hFc hP1 hD1
      obtain ⟨hP, hD⟩ := seg_join [offS ad_7 tp_p_ hd_p_ tf_p_ cf_p_ g o_5] [[(a_text, .inr (1, [.ref v_text, .int 0, .int 0, .int k_text]))], [(v_text, .inl (g 2, c_text, .inl f_text))]] [[(a_text, .inr (1, [.ref v_text, .int 0, .int 0, .int k_text]))], [(v_text, .inl (g 2, c_text, .inl f_text))], offS ad_7 tp_p_ hd_p_ tf_p_ cf_p_ g o_5] 3 [1, 2, 0] rfl rfl (by decide) hP hD
      have hP : va_P (dC, dI) vwCl ([(a_text, .inr (1, [.ref v_text, .int 0, .int 0, .int k_text])), (v_text, .inl (g 2, c_text, .inl f_text))] ++ (offS ad_7 tp_p_ hd_p_ tf_p_ cf_p_ g o_5)) H_11 := hP
      have hD : va_D A ([(a_text, .inr (1, [.ref v_text, .int 0, .int 0, .int k_text])), (v_text, .inl (g 2, c_text, .inl f_text))] ++ (offS ad_7 tp_p_ hd_p_ tf_p_ cf_p_ g o_5)) := hD
      refine W.widen (k := (kb7 + 0)) (n := (nb7 + 0)) (by omega) (by omega) ?_
      refine lv_icmp_ge (tgt := 54) hx hb dL_says_14 (by decide) (fun c_12 => ?_) (fun c_12 => ?_)
      · have hw := hw.1 c_12
        refine W.widen (k := 170) (n := 1020) (by omega) (by omega) ?_
        exact EX7_54 o_5 ad_7 had_7 _ _ hw hP hD hS _ (lv_sub hl [] rfl)
      · have hw := hw.2 c_12
        refine lv_iload_n hx hb dL_says_17 rfl (lv_at hl 2 rfl) ?_
        refine lv_if_lt (tgt := 54) hx hb dL_says_18 (by decide) (fun c_13 => ?_) (fun c_13 => ?_)
        · have hw := hw.1 c_13
          refine W.widen (k := 170) (n := 1020) (by omega) (by omega) ?_
          exact EX7_54 o_5 ad_7 had_7 _ _ hw hP hD hS _ (lv_sub hl [] rfl)
        · have hw := hw.2 c_13
          refine lv_aload_n hx hb dL_says_21 rfl (lv_at hl 0 rfl) ?_
          refine lv_bipush (v := 17) hx hb dL_says_22 (by decide) ?_
          refine lv_aload_n hx hb dL_says_24 rfl (lv_at hl 1 rfl) ?_
          refine lv_iload_n hx hb dL_says_25 rfl (lv_at hl 3 rfl) ?_
          obtain ⟨hPs, hDs⟩ := seg_call (segs := [[(a_text, .inr (1, [.ref v_text, .int 0, .int 0, .int k_text]))], [(v_text, .inl (g 2, c_text, .inl f_text))], offS ad_7 tp_p_ hd_p_ tf_p_ cf_p_ g o_5]) [offS ad_7 tp_p_ hd_p_ tf_p_ cf_p_ g o_5] [[(a_text, .inr (1, [.ref v_text, .int 0, .int 0, .int k_text]))], [(v_text, .inl (g 2, c_text, .inl f_text))]] 3 [2, 0, 1] rfl rfl (by decide) hP hD
          have hPc : va_P (dC, dI) vwCl [(a_text, .inr (1, [.ref v_text, .int 0, .int 0, .int k_text])), (v_text, .inl (g 2, c_text, .inl f_text))] H_11 := P_r hPs
          have hDc : va_D A [(a_text, .inr (1, [.ref v_text, .int 0, .int 0, .int k_text])), (v_text, .inl (g 2, c_text, .inl f_text))] := D_r hDs
          have hFc : ∀ q, va_A [(a_text, .inr (1, [.ref v_text, .int 0, .int 0, .int k_text])), (v_text, .inl (g 2, c_text, .inl f_text))] H_11.size q → A q := A_all hDc hA hS.1
          refine va_callFi (va_runF (As := [.int v3_4]) (rest := [.int 17, .ref t_p_]) (hK.1 1 _ rfl).2 ⟨hx, hb, hml, hown, hts⟩ (c_J4_charAt_5068e l dC dI g (a_this_ := a_text) (v_this_ := v_text) (c_this_ := c_text) (f_this_ := f_text) (k_this_ := k_text) (k_ := v3_4) (hw := hw) (sz := H_11.size)) (va_cwF 1 hts (gqF aw_7_156 aw_7_162 aw_7_164 aw_1_26 aw_7_166) rfl rfl rfl (fw_3 hG) (by decide +kernel) ⟨Nat.le_of_ble_eq_true rfl, Nat.le_of_ble_eq_true rfl⟩) ⟨PG_blind, va_recv hK hP (ci := 1) (q0 := 0) rfl rfl, PG_call hK hG hS hPc hDc hFc⟩ rfl rfl hl.1 rfl (lv_room (Nat.le_of_ble_eq_true rfl)) dL_says_26 ⟨by rw [hrc]; omega, by rw [hrs]; omega⟩) hS (fun q _ h => hFc q h) hFc (fun r_15 u_15 t_15 H_15 L_15 ht_15 hvm_15 hw_15 hB_15 hz_15 hk_15 hS => ?_)
          obtain ⟨hw, hn_r_15⟩ := hw_15
          rw [ht_15] at hB_15
          obtain ⟨hP1, hD1⟩ := hB_15
          obtain ⟨hP, hD⟩ := join_r hPs hDs hk_15 hFc hP1 hD1
          obtain ⟨hP, hD⟩ := seg_join [offS ad_7 tp_p_ hd_p_ tf_p_ cf_p_ g o_5] [[(a_text, .inr (1, [.ref v_text, .int 0, .int 0, .int k_text]))], [(v_text, .inl (g 2, c_text, .inl f_text))]] [[(a_text, .inr (1, [.ref v_text, .int 0, .int 0, .int k_text]))], [(v_text, .inl (g 2, c_text, .inl f_text))], offS ad_7 tp_p_ hd_p_ tf_p_ cf_p_ g o_5] 3 [1, 2, 0] rfl rfl (by decide) hP hD
          have hP : va_P (dC, dI) vwCl ([(a_text, .inr (1, [.ref v_text, .int 0, .int 0, .int k_text])), (v_text, .inl (g 2, c_text, .inl f_text))] ++ (offS ad_7 tp_p_ hd_p_ tf_p_ cf_p_ g o_5)) H_15 := hP
          have hD : va_D A ([(a_text, .inr (1, [.ref v_text, .int 0, .int 0, .int k_text])), (v_text, .inl (g 2, c_text, .inl f_text))] ++ (offS ad_7 tp_p_ hd_p_ tf_p_ cf_p_ g o_5)) := hD
          refine W.widen (k := (kb7 + 0)) (n := (nb7 + 0)) (by omega) (by omega) ?_
          refine lv_iconst (v := 0) hx hb dL_says_31 (by decide) ?_
          refine lv_iconst (v := 0) hx hb dL_says_32 (by decide) ?_
          obtain ⟨hPs, hDs⟩ := seg_call (segs := [[(a_text, .inr (1, [.ref v_text, .int 0, .int 0, .int k_text]))], [(v_text, .inl (g 2, c_text, .inl f_text))], offS ad_7 tp_p_ hd_p_ tf_p_ cf_p_ g o_5]) [[(a_text, .inr (1, [.ref v_text, .int 0, .int 0, .int k_text]))], [(v_text, .inl (g 2, c_text, .inl f_text))]] [offS ad_7 tp_p_ hd_p_ tf_p_ cf_p_ g o_5] 3 [0, 1, 2] rfl rfl (by decide) hP hD
          have hPc : va_P (dC, dI) vwCl (offS ad_7 tp_p_ hd_p_ tf_p_ cf_p_ g o_5) H_15 := P_r hPs
          have hDc : va_D A (offS ad_7 tp_p_ hd_p_ tf_p_ cf_p_ g o_5) := D_r hDs
          have hFc : ∀ q, va_A (offS ad_7 tp_p_ hd_p_ tf_p_ cf_p_ g o_5) H_15.size q → A q := A_all hDc hA hS.1
          refine va_calli (vx_runSW (As := [.ref t_p_, .int 17, .int r_15, .int 0, .int 0]) (rest := []) ⟨hx, hb, hml, hown, hts⟩ (c_L_asks_17 l hlf dC dI g (tp_p_ := tp_p_) (hd_p_ := hd_p_) (tf_p_ := tf_p_) (cf_p_ := cf_p_) (htf_p_ := htf_p_) (hcf_p_ := hcf_p_) (a_p_ := ad_7) (t_p_ := t_p_) (h_p_ := had_7) (o_p_ := o_5) (a_ := r_15) (b_ := 0) (c_ := 0) (hw := hw) (sz := H_15.size)) (vx_cwSW 5 hts (gqS aw_4_45 aw_4_46 aw_1_0 aw_4_47) rfl rfl rfl (by decide +kernel) ⟨Nat.le_of_ble_eq_true rfl, Nat.le_of_ble_eq_true rfl⟩) ⟨PG_blind, PG_call hK hG hS hPc hDc hFc⟩ rfl rfl hl.1 rfl (lv_room (Nat.le_of_ble_eq_true rfl)) dL_says_33 ⟨by rw [hrc]; omega, by rw [hrs]; omega⟩) hS (fun q _ h => hFc q h) hFc (fun r_16 u_16 t_16 H_16 L_16 ht_16 hvm_16 hw_16 hB_16 hz_16 hk_16 hS => ?_)
          obtain ⟨ad_17, o_18, u_16⟩ := u_16
          obtain ⟨hw, had_17⟩ := hw_16
          rw [ht_16] at hB_16
          obtain ⟨hP1, hD1⟩ := hB_16
          obtain ⟨hP, hD⟩ := join_r hPs hDs hk_16 hFc hP1 hD1
          obtain ⟨hP, hD⟩ := seg_join [[(a_text, .inr (1, [.ref v_text, .int 0, .int 0, .int k_text]))], [(v_text, .inl (g 2, c_text, .inl f_text))]] [offS ad_17 tp_p_ hd_p_ tf_p_ cf_p_ g o_18] [[(a_text, .inr (1, [.ref v_text, .int 0, .int 0, .int k_text]))], [(v_text, .inl (g 2, c_text, .inl f_text))], offS ad_17 tp_p_ hd_p_ tf_p_ cf_p_ g o_18] 3 [0, 1, 2] rfl rfl (by decide) hP hD
          have hP : va_P (dC, dI) vwCl ([(a_text, .inr (1, [.ref v_text, .int 0, .int 0, .int k_text])), (v_text, .inl (g 2, c_text, .inl f_text))] ++ (offS ad_17 tp_p_ hd_p_ tf_p_ cf_p_ g o_18)) H_16 := hP
          have hD : va_D A ([(a_text, .inr (1, [.ref v_text, .int 0, .int 0, .int k_text])), (v_text, .inl (g 2, c_text, .inl f_text))] ++ (offS ad_17 tp_p_ hd_p_ tf_p_ cf_p_ g o_18)) := hD
          refine W.widen (k := (kb7 + 1)) (n := (nb7 + 6)) (by omega) (by omega) ?_
          refine lv_sipush (v := (-20004)) hx hb dL_says_36 (by decide) ?_
          refine lv_icmp_ne (tgt := 46) hx hb dL_says_39 (by decide) (fun c_19 => ?_) (fun c_19 => ?_)
          · have hw := hw.2 c_19
            refine lv_iload_n hx hb dL_says_46 rfl (lv_at hl 2 rfl) ?_
            refine lv_istore_n (lv' := [(2, .int v2_6), (0, .ref t_p_), (1, .ref a_text), (3, .int v3_4)]) hx hb dL_says_47 rfl hl (by decide) rfl (fun ls hl => ?_)
            obtain ⟨x_20, ex_20⟩ : ∃ y : Int32, y = v3_4 + 1 := ⟨_, rfl⟩
            have hw := hw x_20 ex_20
            refine lv_iinc (v := x_20) (lv' := [(3, .int x_20), (2, .int v2_6), (0, .ref t_p_), (1, .ref a_text)]) hx hb dL_says_48 hl (k := 3) rfl (by rw [ex_20]; rfl) (by decide) rfl (fun ls hl => ?_)
            refine lv_goto (tgt := 7) hx hb dL_says_51 (by decide) ?_
            refine W.widen (k := (170 - n7 * 1)) (n := (1020 - n7 * 6)) (by omega) (by omega) ?_
            exact ih7 x_20 o_18 v2_6 ad_17 had_17 _ _ hw hP hD hS _ (lv_sub hl [2, 3, 1, 0] rfl)
          · have hw := hw.1 c_19
            refine lv_iconst (v := (-1)) hx hb dL_says_42 (by decide) ?_
            refine lv_goto (tgt := 47) hx hb dL_says_43 (by decide) ?_
            refine lv_istore_n (lv' := [(2, .int (-1)), (0, .ref t_p_), (1, .ref a_text), (3, .int v3_4)]) hx hb dL_says_47 rfl hl (by decide) rfl (fun ls hl => ?_)
            obtain ⟨x_21, ex_21⟩ : ∃ y : Int32, y = v3_4 + 1 := ⟨_, rfl⟩
            have hw := hw x_21 ex_21
            refine lv_iinc (v := x_21) (lv' := [(3, .int x_21), (2, .int (-1)), (0, .ref t_p_), (1, .ref a_text)]) hx hb dL_says_48 hl (k := 3) rfl (by rw [ex_21]; rfl) (by decide) rfl (fun ls hl => ?_)
            refine lv_goto (tgt := 7) hx hb dL_says_51 (by decide) ?_
            refine W.widen (k := (170 - n7 * 1)) (n := (1020 - n7 * 6)) (by omega) (by omega) ?_
            exact ih7 x_21 o_18 (-1) ad_17 had_17 _ _ hw hP hD hS _ (lv_sub hl [2, 3, 1, 0] rfl)
  obtain ⟨n7, hle7, hw⟩ := hw
  refine W.widen (k := (170 - n7 * 1)) (n := (1020 - n7 * 6)) (by omega) (by omega) ?_
  exact LOOP7 n7 hle7 0 o_3 r_1 ad_2 had_2 _ _ hw hP hD hS _ (lv_sub hl [2, 3, 1, 0] rfl)
theorem dL_tells_0 : decode cL_tells 0 = .ok (.aload_n 2, 1) := by decide +kernel
theorem dL_tells_1 : decode cL_tells 1 = .ok (.iconst 0, 1) := by decide +kernel
theorem dL_tells_2 : decode cL_tells 2 = .ok (.iaload, 1) := by decide +kernel
theorem dL_tells_401 : decode cL_tells 401 = .ok (.aload_n 1, 1) := by decide +kernel
theorem dL_tells_402 : decode cL_tells 402 = .ok (.aload_n 0, 1) := by decide +kernel
theorem dL_tells_403 : decode cL_tells 403 = .ok (.iconst 3, 1) := by decide +kernel
theorem dL_tells_404 : decode cL_tells 404 = .ok (.invokestatic 103, 3) := by decide +kernel
theorem dL_tells_419 : decode cL_tells 419 = .ok (.invokevirtual 211, 3) := by decide +kernel
theorem dL_tells_422 : decode cL_tells 422 = .ok (.pop, 1) := by decide +kernel
theorem dL_tells_423 : decode cL_tells 423 = .ok (.return_, 1) := by decide +kernel
theorem dL_tells_407 : decode cL_tells 407 = .ok (.ifCond .ne 9, 3) := by decide +kernel
theorem dL_tells_416 : decode cL_tells 416 = .ok (.ldc_w 271, 3) := by decide +kernel
theorem dL_tells_410 : decode cL_tells 410 = .ok (.ldc_w 269, 3) := by decide +kernel
theorem dL_tells_413 : decode cL_tells 413 = .ok (.goto 6, 3) := by decide +kernel
theorem dL_tells_3 : decode cL_tells 3 = .ok (.ifCond .ne 238, 3) := by decide +kernel
theorem dL_tells_241 : decode cL_tells 241 = .ok (.aload_n 2, 1) := by decide +kernel
theorem dL_tells_242 : decode cL_tells 242 = .ok (.iconst 0, 1) := by decide +kernel
theorem dL_tells_243 : decode cL_tells 243 = .ok (.iaload, 1) := by decide +kernel
theorem dL_tells_244 : decode cL_tells 244 = .ok (.iconst 4, 1) := by decide +kernel
theorem dL_tells_245 : decode cL_tells 245 = .ok (.if_icmp .ge 65, 3) := by decide +kernel
theorem dL_tells_310 : decode cL_tells 310 = .ok (.aload_n 2, 1) := by decide +kernel
theorem dL_tells_311 : decode cL_tells 311 = .ok (.iconst 0, 1) := by decide +kernel
theorem dL_tells_312 : decode cL_tells 312 = .ok (.iaload, 1) := by decide +kernel
theorem dL_tells_313 : decode cL_tells 313 = .ok (.iconst 4, 1) := by decide +kernel
theorem dL_tells_314 : decode cL_tells 314 = .ok (.if_icmp .ne 32, 3) := by decide +kernel
theorem dL_tells_346 : decode cL_tells 346 = .ok (.aload_n 1, 1) := by decide +kernel
theorem dL_tells_347 : decode cL_tells 347 = .ok (.aload_n 2, 1) := by decide +kernel
theorem dL_tells_348 : decode cL_tells 348 = .ok (.iconst 0, 1) := by decide +kernel
theorem dL_tells_349 : decode cL_tells 349 = .ok (.iaload, 1) := by decide +kernel
theorem dL_tells_350 : decode cL_tells 350 = .ok (.iconst 5, 1) := by decide +kernel
theorem dL_tells_391 : decode cL_tells 391 = .ok (.invokevirtual 211, 3) := by decide +kernel
theorem dL_tells_394 : decode cL_tells 394 = .ok (.aload_n 2, 1) := by decide +kernel
theorem dL_tells_395 : decode cL_tells 395 = .ok (.iconst 1, 1) := by decide +kernel
theorem dL_tells_396 : decode cL_tells 396 = .ok (.iaload, 1) := by decide +kernel
theorem dL_tells_397 : decode cL_tells 397 = .ok (.invokevirtual 217, 3) := by decide +kernel
theorem dL_tells_400 : decode cL_tells 400 = .ok (.pop, 1) := by decide +kernel
theorem dL_tells_351 : decode cL_tells 351 = .ok (.if_icmp .ne 9, 3) := by decide +kernel
theorem dL_tells_360 : decode cL_tells 360 = .ok (.aload_n 2, 1) := by decide +kernel
theorem dL_tells_361 : decode cL_tells 361 = .ok (.iconst 0, 1) := by decide +kernel
theorem dL_tells_362 : decode cL_tells 362 = .ok (.iaload, 1) := by decide +kernel
theorem dL_tells_363 : decode cL_tells 363 = .ok (.bipush 6, 2) := by decide +kernel
theorem dL_tells_365 : decode cL_tells 365 = .ok (.if_icmp .ne 9, 3) := by decide +kernel
theorem dL_tells_374 : decode cL_tells 374 = .ok (.aload_n 2, 1) := by decide +kernel
theorem dL_tells_375 : decode cL_tells 375 = .ok (.iconst 0, 1) := by decide +kernel
theorem dL_tells_376 : decode cL_tells 376 = .ok (.iaload, 1) := by decide +kernel
theorem dL_tells_377 : decode cL_tells 377 = .ok (.bipush 7, 2) := by decide +kernel
theorem dL_tells_379 : decode cL_tells 379 = .ok (.if_icmp .ne 9, 3) := by decide +kernel
theorem dL_tells_388 : decode cL_tells 388 = .ok (.ldc_w 267, 3) := by decide +kernel
theorem dL_tells_382 : decode cL_tells 382 = .ok (.ldc_w 265, 3) := by decide +kernel
theorem dL_tells_385 : decode cL_tells 385 = .ok (.goto 6, 3) := by decide +kernel
theorem dL_tells_368 : decode cL_tells 368 = .ok (.ldc_w 263, 3) := by decide +kernel
theorem dL_tells_371 : decode cL_tells 371 = .ok (.goto 20, 3) := by decide +kernel
theorem dL_tells_354 : decode cL_tells 354 = .ok (.ldc_w 261, 3) := by decide +kernel
theorem dL_tells_357 : decode cL_tells 357 = .ok (.goto 34, 3) := by decide +kernel
theorem dL_tells_317 : decode cL_tells 317 = .ok (.aload_n 1, 1) := by decide +kernel
theorem dL_tells_318 : decode cL_tells 318 = .ok (.ldc_w 257, 3) := by decide +kernel
theorem dL_tells_321 : decode cL_tells 321 = .ok (.invokevirtual 211, 3) := by decide +kernel
theorem dL_tells_324 : decode cL_tells 324 = .ok (.aload_n 2, 1) := by decide +kernel
theorem dL_tells_325 : decode cL_tells 325 = .ok (.iconst 1, 1) := by decide +kernel
theorem dL_tells_326 : decode cL_tells 326 = .ok (.iaload, 1) := by decide +kernel
theorem dL_tells_327 : decode cL_tells 327 = .ok (.invokevirtual 217, 3) := by decide +kernel
theorem dL_tells_330 : decode cL_tells 330 = .ok (.ldc_w 259, 3) := by decide +kernel
theorem dL_tells_333 : decode cL_tells 333 = .ok (.invokevirtual 211, 3) := by decide +kernel
theorem dL_tells_336 : decode cL_tells 336 = .ok (.aload_n 2, 1) := by decide +kernel
theorem dL_tells_337 : decode cL_tells 337 = .ok (.iconst 3, 1) := by decide +kernel
theorem dL_tells_338 : decode cL_tells 338 = .ok (.iaload, 1) := by decide +kernel
theorem dL_tells_339 : decode cL_tells 339 = .ok (.invokevirtual 217, 3) := by decide +kernel
theorem dL_tells_342 : decode cL_tells 342 = .ok (.pop, 1) := by decide +kernel
theorem dL_tells_343 : decode cL_tells 343 = .ok (.goto 58, 3) := by decide +kernel
theorem dL_tells_248 : decode cL_tells 248 = .ok (.aload_n 1, 1) := by decide +kernel
theorem dL_tells_249 : decode cL_tells 249 = .ok (.aload_n 2, 1) := by decide +kernel
theorem dL_tells_250 : decode cL_tells 250 = .ok (.iconst 0, 1) := by decide +kernel
theorem dL_tells_251 : decode cL_tells 251 = .ok (.iaload, 1) := by decide +kernel
theorem dL_tells_252 : decode cL_tells 252 = .ok (.iconst 1, 1) := by decide +kernel
theorem dL_tells_275 : decode cL_tells 275 = .ok (.invokevirtual 211, 3) := by decide +kernel
theorem dL_tells_278 : decode cL_tells 278 = .ok (.aload_n 2, 1) := by decide +kernel
theorem dL_tells_279 : decode cL_tells 279 = .ok (.iconst 1, 1) := by decide +kernel
theorem dL_tells_280 : decode cL_tells 280 = .ok (.iaload, 1) := by decide +kernel
theorem dL_tells_281 : decode cL_tells 281 = .ok (.invokevirtual 217, 3) := by decide +kernel
theorem dL_tells_284 : decode cL_tells 284 = .ok (.ldc 255, 2) := by decide +kernel
theorem dL_tells_286 : decode cL_tells 286 = .ok (.invokevirtual 211, 3) := by decide +kernel
theorem dL_tells_289 : decode cL_tells 289 = .ok (.aload_n 2, 1) := by decide +kernel
theorem dL_tells_290 : decode cL_tells 290 = .ok (.iconst 2, 1) := by decide +kernel
theorem dL_tells_291 : decode cL_tells 291 = .ok (.iaload, 1) := by decide +kernel
theorem dL_tells_292 : decode cL_tells 292 = .ok (.invokevirtual 217, 3) := by decide +kernel
theorem dL_tells_295 : decode cL_tells 295 = .ok (.ldc 222, 2) := by decide +kernel
theorem dL_tells_297 : decode cL_tells 297 = .ok (.invokevirtual 211, 3) := by decide +kernel
theorem dL_tells_300 : decode cL_tells 300 = .ok (.aload_n 2, 1) := by decide +kernel
theorem dL_tells_301 : decode cL_tells 301 = .ok (.iconst 3, 1) := by decide +kernel
theorem dL_tells_302 : decode cL_tells 302 = .ok (.iaload, 1) := by decide +kernel
theorem dL_tells_303 : decode cL_tells 303 = .ok (.invokevirtual 217, 3) := by decide +kernel
theorem dL_tells_306 : decode cL_tells 306 = .ok (.pop, 1) := by decide +kernel
theorem dL_tells_307 : decode cL_tells 307 = .ok (.goto 94, 3) := by decide +kernel
theorem dL_tells_253 : decode cL_tells 253 = .ok (.if_icmp .ne 8, 3) := by decide +kernel
theorem dL_tells_261 : decode cL_tells 261 = .ok (.aload_n 2, 1) := by decide +kernel
theorem dL_tells_262 : decode cL_tells 262 = .ok (.iconst 0, 1) := by decide +kernel
theorem dL_tells_263 : decode cL_tells 263 = .ok (.iaload, 1) := by decide +kernel
theorem dL_tells_264 : decode cL_tells 264 = .ok (.iconst 2, 1) := by decide +kernel
theorem dL_tells_265 : decode cL_tells 265 = .ok (.if_icmp .ne 8, 3) := by decide +kernel
theorem dL_tells_273 : decode cL_tells 273 = .ok (.ldc 253, 2) := by decide +kernel
theorem dL_tells_268 : decode cL_tells 268 = .ok (.ldc 251, 2) := by decide +kernel
theorem dL_tells_270 : decode cL_tells 270 = .ok (.goto 5, 3) := by decide +kernel
theorem dL_tells_256 : decode cL_tells 256 = .ok (.ldc 249, 2) := by decide +kernel
theorem dL_tells_258 : decode cL_tells 258 = .ok (.goto 17, 3) := by decide +kernel
theorem dL_tells_6 : decode cL_tells 6 = .ok (.aload_n 1, 1) := by decide +kernel
theorem dL_tells_7 : decode cL_tells 7 = .ok (.ldc 209, 2) := by decide +kernel
theorem dL_tells_9 : decode cL_tells 9 = .ok (.invokevirtual 211, 3) := by decide +kernel
theorem dL_tells_12 : decode cL_tells 12 = .ok (.aload_n 2, 1) := by decide +kernel
theorem dL_tells_13 : decode cL_tells 13 = .ok (.iconst 1, 1) := by decide +kernel
theorem dL_tells_14 : decode cL_tells 14 = .ok (.iaload, 1) := by decide +kernel
theorem dL_tells_15 : decode cL_tells 15 = .ok (.invokevirtual 217, 3) := by decide +kernel
theorem dL_tells_18 : decode cL_tells 18 = .ok (.aload_n 0, 1) := by decide +kernel
theorem dL_tells_19 : decode cL_tells 19 = .ok (.iconst 3, 1) := by decide +kernel
theorem dL_tells_20 : decode cL_tells 20 = .ok (.invokestatic 103, 3) := by decide +kernel
theorem dL_tells_33 : decode cL_tells 33 = .ok (.invokevirtual 211, 3) := by decide +kernel
theorem dL_tells_36 : decode cL_tells 36 = .ok (.aload_n 2, 1) := by decide +kernel
theorem dL_tells_37 : decode cL_tells 37 = .ok (.iconst 2, 1) := by decide +kernel
theorem dL_tells_38 : decode cL_tells 38 = .ok (.iaload, 1) := by decide +kernel
theorem dL_tells_39 : decode cL_tells 39 = .ok (.invokevirtual 217, 3) := by decide +kernel
theorem dL_tells_42 : decode cL_tells 42 = .ok (.pop, 1) := by decide +kernel
theorem dL_tells_43 : decode cL_tells 43 = .ok (.aload_n 2, 1) := by decide +kernel
theorem dL_tells_44 : decode cL_tells 44 = .ok (.iconst 4, 1) := by decide +kernel
theorem dL_tells_45 : decode cL_tells 45 = .ok (.iaload, 1) := by decide +kernel
theorem dL_tells_46 : decode cL_tells 46 = .ok (.iconst (-1), 1) := by decide +kernel
theorem dL_tells_86 : decode cL_tells 86 = .ok (.aload_n 2, 1) := by decide +kernel
theorem dL_tells_87 : decode cL_tells 87 = .ok (.iconst 5, 1) := by decide +kernel
theorem dL_tells_88 : decode cL_tells 88 = .ok (.iaload, 1) := by decide +kernel
theorem dL_tells_89 : decode cL_tells 89 = .ok (.iconst (-1), 1) := by decide +kernel
theorem dL_tells_160 : decode cL_tells 160 = .ok (.aload_n 2, 1) := by decide +kernel
theorem dL_tells_161 : decode cL_tells 161 = .ok (.bipush 7, 2) := by decide +kernel
theorem dL_tells_163 : decode cL_tells 163 = .ok (.iaload, 1) := by decide +kernel
theorem dL_tells_164 : decode cL_tells 164 = .ok (.iconst (-1), 1) := by decide +kernel
theorem dL_tells_165 : decode cL_tells 165 = .ok (.if_icmp .eq 236, 3) := by decide +kernel
theorem dL_tells_168 : decode cL_tells 168 = .ok (.aload_n 1, 1) := by decide +kernel
theorem dL_tells_169 : decode cL_tells 169 = .ok (.aload_n 2, 1) := by decide +kernel
theorem dL_tells_170 : decode cL_tells 170 = .ok (.bipush 7, 2) := by decide +kernel
theorem dL_tells_172 : decode cL_tells 172 = .ok (.iaload, 1) := by decide +kernel
theorem dL_tells_196 : decode cL_tells 196 = .ok (.invokevirtual 211, 3) := by decide +kernel
theorem dL_tells_199 : decode cL_tells 199 = .ok (.aload_n 2, 1) := by decide +kernel
theorem dL_tells_200 : decode cL_tells 200 = .ok (.bipush 7, 2) := by decide +kernel
theorem dL_tells_202 : decode cL_tells 202 = .ok (.iaload, 1) := by decide +kernel
theorem dL_tells_203 : decode cL_tells 203 = .ok (.iconst 1, 1) := by decide +kernel
theorem dL_tells_204 : decode cL_tells 204 = .ok (.if_icmp .ne 8, 3) := by decide +kernel
theorem dL_tells_212 : decode cL_tells 212 = .ok (.new 212, 3) := by decide +kernel
theorem dL_tells_215 : decode cL_tells 215 = .ok (.dup, 1) := by decide +kernel
theorem dL_tells_216 : decode cL_tells 216 = .ok (.invokespecial 238, 3) := by decide +kernel
theorem dL_tells_219 : decode cL_tells 219 = .ok (.ldc 226, 2) := by decide +kernel
theorem dL_tells_221 : decode cL_tells 221 = .ok (.invokevirtual 211, 3) := by decide +kernel
theorem dL_tells_224 : decode cL_tells 224 = .ok (.aload_n 2, 1) := by decide +kernel
theorem dL_tells_225 : decode cL_tells 225 = .ok (.bipush 8, 2) := by decide +kernel
theorem dL_tells_227 : decode cL_tells 227 = .ok (.iaload, 1) := by decide +kernel
theorem dL_tells_228 : decode cL_tells 228 = .ok (.invokevirtual 217, 3) := by decide +kernel
theorem dL_tells_231 : decode cL_tells 231 = .ok (.invokevirtual 239, 3) := by decide +kernel
theorem dL_tells_234 : decode cL_tells 234 = .ok (.invokevirtual 211, 3) := by decide +kernel
theorem dL_tells_237 : decode cL_tells 237 = .ok (.pop, 1) := by decide +kernel
theorem dL_tells_238 : decode cL_tells 238 = .ok (.goto 163, 3) := by decide +kernel
theorem dL_tells_207 : decode cL_tells 207 = .ok (.ldc 226, 2) := by decide +kernel
theorem dL_tells_209 : decode cL_tells 209 = .ok (.goto 25, 3) := by decide +kernel
theorem dL_tells_173 : decode cL_tells 173 = .ok (.ifCond .ne 8, 3) := by decide +kernel
theorem dL_tells_181 : decode cL_tells 181 = .ok (.aload_n 2, 1) := by decide +kernel
theorem dL_tells_182 : decode cL_tells 182 = .ok (.bipush 7, 2) := by decide +kernel
theorem dL_tells_184 : decode cL_tells 184 = .ok (.iaload, 1) := by decide +kernel
theorem dL_tells_185 : decode cL_tells 185 = .ok (.iconst 1, 1) := by decide +kernel
theorem dL_tells_186 : decode cL_tells 186 = .ok (.if_icmp .ne 8, 3) := by decide +kernel
theorem dL_tells_194 : decode cL_tells 194 = .ok (.ldc 247, 2) := by decide +kernel
theorem dL_tells_189 : decode cL_tells 189 = .ok (.ldc 245, 2) := by decide +kernel
theorem dL_tells_191 : decode cL_tells 191 = .ok (.goto 5, 3) := by decide +kernel
theorem dL_tells_176 : decode cL_tells 176 = .ok (.ldc 243, 2) := by decide +kernel
theorem dL_tells_178 : decode cL_tells 178 = .ok (.goto 18, 3) := by decide +kernel
theorem dL_tells_90 : decode cL_tells 90 = .ok (.if_icmp .eq 70, 3) := by decide +kernel
theorem dL_tells_93 : decode cL_tells 93 = .ok (.aload_n 1, 1) := by decide +kernel
theorem dL_tells_94 : decode cL_tells 94 = .ok (.aload_n 2, 1) := by decide +kernel
theorem dL_tells_95 : decode cL_tells 95 = .ok (.iconst 5, 1) := by decide +kernel
theorem dL_tells_96 : decode cL_tells 96 = .ok (.iaload, 1) := by decide +kernel
theorem dL_tells_119 : decode cL_tells 119 = .ok (.invokevirtual 211, 3) := by decide +kernel
theorem dL_tells_122 : decode cL_tells 122 = .ok (.aload_n 2, 1) := by decide +kernel
theorem dL_tells_123 : decode cL_tells 123 = .ok (.iconst 5, 1) := by decide +kernel
theorem dL_tells_124 : decode cL_tells 124 = .ok (.iaload, 1) := by decide +kernel
theorem dL_tells_125 : decode cL_tells 125 = .ok (.iconst 2, 1) := by decide +kernel
theorem dL_tells_126 : decode cL_tells 126 = .ok (.if_icmp .ne 8, 3) := by decide +kernel
theorem dL_tells_134 : decode cL_tells 134 = .ok (.new 212, 3) := by decide +kernel
theorem dL_tells_137 : decode cL_tells 137 = .ok (.dup, 1) := by decide +kernel
theorem dL_tells_138 : decode cL_tells 138 = .ok (.invokespecial 238, 3) := by decide +kernel
theorem dL_tells_141 : decode cL_tells 141 = .ok (.ldc 226, 2) := by decide +kernel
theorem dL_tells_143 : decode cL_tells 143 = .ok (.invokevirtual 211, 3) := by decide +kernel
theorem dL_tells_146 : decode cL_tells 146 = .ok (.aload_n 2, 1) := by decide +kernel
theorem dL_tells_147 : decode cL_tells 147 = .ok (.bipush 6, 2) := by decide +kernel
theorem dL_tells_149 : decode cL_tells 149 = .ok (.iaload, 1) := by decide +kernel
theorem dL_tells_150 : decode cL_tells 150 = .ok (.invokevirtual 217, 3) := by decide +kernel
theorem dL_tells_153 : decode cL_tells 153 = .ok (.invokevirtual 239, 3) := by decide +kernel
theorem dL_tells_156 : decode cL_tells 156 = .ok (.invokevirtual 211, 3) := by decide +kernel
theorem dL_tells_159 : decode cL_tells 159 = .ok (.pop, 1) := by decide +kernel
theorem dL_tells_129 : decode cL_tells 129 = .ok (.ldc 226, 2) := by decide +kernel
theorem dL_tells_131 : decode cL_tells 131 = .ok (.goto 25, 3) := by decide +kernel
theorem dL_tells_97 : decode cL_tells 97 = .ok (.ifCond .ne 8, 3) := by decide +kernel
theorem dL_tells_105 : decode cL_tells 105 = .ok (.aload_n 2, 1) := by decide +kernel
theorem dL_tells_106 : decode cL_tells 106 = .ok (.iconst 5, 1) := by decide +kernel
theorem dL_tells_107 : decode cL_tells 107 = .ok (.iaload, 1) := by decide +kernel
theorem dL_tells_108 : decode cL_tells 108 = .ok (.iconst 1, 1) := by decide +kernel
theorem dL_tells_109 : decode cL_tells 109 = .ok (.if_icmp .ne 8, 3) := by decide +kernel
theorem dL_tells_117 : decode cL_tells 117 = .ok (.ldc 236, 2) := by decide +kernel
theorem dL_tells_112 : decode cL_tells 112 = .ok (.ldc 234, 2) := by decide +kernel
theorem dL_tells_114 : decode cL_tells 114 = .ok (.goto 5, 3) := by decide +kernel
theorem dL_tells_100 : decode cL_tells 100 = .ok (.ldc 232, 2) := by decide +kernel
theorem dL_tells_102 : decode cL_tells 102 = .ok (.goto 17, 3) := by decide +kernel
theorem dL_tells_47 : decode cL_tells 47 = .ok (.if_icmp .eq 39, 3) := by decide +kernel
theorem dL_tells_50 : decode cL_tells 50 = .ok (.aload_n 1, 1) := by decide +kernel
theorem dL_tells_51 : decode cL_tells 51 = .ok (.aload_n 0, 1) := by decide +kernel
theorem dL_tells_52 : decode cL_tells 52 = .ok (.iconst 3, 1) := by decide +kernel
theorem dL_tells_53 : decode cL_tells 53 = .ok (.invokestatic 103, 3) := by decide +kernel
theorem dL_tells_66 : decode cL_tells 66 = .ok (.invokevirtual 211, 3) := by decide +kernel
theorem dL_tells_69 : decode cL_tells 69 = .ok (.aload_n 2, 1) := by decide +kernel
theorem dL_tells_70 : decode cL_tells 70 = .ok (.iconst 4, 1) := by decide +kernel
theorem dL_tells_71 : decode cL_tells 71 = .ok (.iaload, 1) := by decide +kernel
theorem dL_tells_82 : decode cL_tells 82 = .ok (.invokevirtual 211, 3) := by decide +kernel
theorem dL_tells_85 : decode cL_tells 85 = .ok (.pop, 1) := by decide +kernel
theorem dL_tells_72 : decode cL_tells 72 = .ok (.ifCond .ne 8, 3) := by decide +kernel
theorem dL_tells_80 : decode cL_tells 80 = .ok (.ldc 230, 2) := by decide +kernel
theorem dL_tells_75 : decode cL_tells 75 = .ok (.ldc 228, 2) := by decide +kernel
theorem dL_tells_77 : decode cL_tells 77 = .ok (.goto 5, 3) := by decide +kernel
theorem dL_tells_56 : decode cL_tells 56 = .ok (.ifCond .ne 8, 3) := by decide +kernel
theorem dL_tells_64 : decode cL_tells 64 = .ok (.ldc 226, 2) := by decide +kernel
theorem dL_tells_59 : decode cL_tells 59 = .ok (.ldc 224, 2) := by decide +kernel
theorem dL_tells_61 : decode cL_tells 61 = .ok (.goto 5, 3) := by decide +kernel
theorem dL_tells_23 : decode cL_tells 23 = .ok (.ifCond .ne 8, 3) := by decide +kernel
theorem dL_tells_31 : decode cL_tells 31 = .ok (.ldc 222, 2) := by decide +kernel
theorem dL_tells_26 : decode cL_tells 26 = .ok (.ldc 220, 2) := by decide +kernel
theorem dL_tells_28 : decode cL_tells 28 = .ok (.goto 5, 3) := by decide +kernel

set_option maxHeartbeats 8000000 in
set_option maxRecDepth 100000 in
theorem c_L_tells (l : Launch) (hlf : l.stackTraces = false) (dC : Nat → ClassId) (dI : Nat → Nat → Nat) (g : Nat → ClassId) (a_r_ n_r_ : Nat) (r_ : Nat → Int32) (a_text v_text c_text : Nat) (f_text : Nat → Int32) (k_text : Int32) (a_d_ n_d_ : Nat) (d_ : Nat → Int32) (Q : (Nat → Int32) → Nat → (Nat → Int32) → Int32 → Prop) (hw : wp_L_tells n_r_ r_ c_text f_text k_text n_d_ d_ Q) (sz : Nat) : Met l yL_tells wqL_tells ({ frames := 6, cells := 23, slots := 38016, locals := 171 }) (va_Pc [.ref a_r_, .ref a_text, .ref a_d_] (PG (dC, dI) g [(a_r_, .inl (g 0, n_r_, .inl r_)), (a_text, .inr (1, [.ref v_text, .int 0, .int 0, .int k_text])), (v_text, .inl (g 2, c_text, .inl f_text)), (a_d_, .inl (g 0, n_d_, .inl d_))] sz)) (va_Qv (fun (u : (Nat → Int32) × Nat × Nat × (Nat → Int32) × Int32 × Unit) => Q u.1 u.2.2.1 u.2.2.2.1 u.2.2.2.2.1) (fun (u : (Nat → Int32) × Nat × Nat × (Nat → Int32) × Int32 × Unit) t9 => va_P (dC, dI) vwCl [(a_r_, .inl (g 0, n_r_, .inl u.1)), (a_text, .inr (1, [.ref u.2.1, .int 0, .int 0, .int u.2.2.2.2.1])), (u.2.1, .inl (g 2, u.2.2.1, .inl u.2.2.2.1)), (a_d_, .inl (g 0, n_d_, .inl d_))] t9.heap ∧ va_D (va_A [(a_r_, .inl (g 0, n_r_, .inl r_)), (a_text, .inr (1, [.ref v_text, .int 0, .int 0, .int k_text])), (v_text, .inl (g 2, c_text, .inl f_text)), (a_d_, .inl (g 0, n_d_, .inl d_))] sz) [(a_r_, .inl (g 0, n_r_, .inl u.1)), (a_text, .inr (1, [.ref u.2.1, .int 0, .int 0, .int u.2.2.2.2.1])), (u.2.1, .inl (g 2, u.2.2.1, .inl u.2.2.2.1)), (a_d_, .inl (g 0, n_d_, .inl d_))]) (va_A [(a_r_, .inl (g 0, n_r_, .inl r_)), (a_text, .inr (1, [.ref v_text, .int 0, .int 0, .int k_text])), (v_text, .inl (g 2, c_text, .inl f_text)), (a_d_, .inl (g 0, n_d_, .inl d_))] sz)) 23 38016 (va_A [(a_r_, .inl (g 0, n_r_, .inl r_)), (a_text, .inr (1, [.ref v_text, .int 0, .int 0, .int k_text])), (v_text, .inl (g 2, c_text, .inl f_text)), (a_d_, .inl (g 0, n_d_, .inl d_))] sz) := by
  refine Met.ofW (cc := cL_tells) (maxL := 3) (ret := none) (by decide) rfl ?_
  intro p e s m args below meth c s₁ B hml hv
  obtain ⟨rfl, hsz, hP, hK, hD0, hG⟩ := hv
  have hx := B.exec
  have hb := B.bytes
  have hr := B.returns
  have hts := atoms_spec (ws := wqL_tells) B.pre
  have hown : s.vm.findClass RL = some m.cls := findClass_of_methodNamed B.named
  have hlocks := B.notSynchronized
  subst hsz
  have hD := hD0.self (sz := s.heap.size)
  generalize hAe : va_A [(a_r_, .inl (g 0, n_r_, .inl r_)), (a_text, .inr (1, [.ref v_text, .int 0, .int 0, .int k_text])), (v_text, .inl (g 2, c_text, .inl f_text)), (a_d_, .inl (g 0, n_d_, .inl d_))] s.heap.size = A at hD hG ⊢
  have hA : ∀ q : Nat, s.heap.size ≤ q → A q := fun q h => by rw [← hAe]; exact Or.inr h
  have hS : va_S A s.heap s.heap [] := va_S.rf
  have hrc : (headSpec wqL_tells ({ frames := 6, cells := 23, slots := 38016, locals := 171 })).room.cells = 23 := rfl
  have hrs : (headSpec wqL_tells ({ frames := 6, cells := 23, slots := 38016, locals := 171 })).room.slots = 38016 := rfl
  have hl := lv_entry ([.ref a_r_, .ref a_text, .ref a_d_]) (n := 3) (Nat.le_of_ble_eq_true rfl)
  rw [lg_entry_eq]
  generalize (lg_sl ([.ref a_r_, .ref a_text, .ref a_d_]) ++ List.replicate (3 - (lg_sl ([.ref a_r_, .ref a_text, .ref a_d_])).length) Slot.unset).toArray = ls at hl ⊢
  have hl : lv_has ls 3 [(0, .ref a_r_), (1, .ref a_text), (2, .ref a_d_)] := hl
  unfold wp_L_tells at hw
  have hcl212 := hts (Cond.classLink RL 212 RJ4) (aw_l aw_6_110)
  have hinJ4 := hts (Cond.instantiable RJ4 4) (aw_l aw_6_111)
  have hiniJ4 := hts (Cond.initialized RJ4) (aw_l aw_1_26)
  have hiJ4 : ∀ w ∈ u_ws RJ4 TJ4 4, w ∈ wqL_tells := fun w h => aw_l (aw_wsJ40 w h)
  have himJ4_init_da8c8 := hts (Cond.instanceMethod yJ4_init_da8c8) (aw_l aw_7_55)
  have hml238 := hts (Cond.methodLink RL 238 yJ4_init_da8c8) (aw_l aw_7_54)
  have hiJ0 : ∀ w ∈ u_ws RJ0 TJ0 4, w ∈ wqL_tells := fun w h => aw_l (aw_wsJ00 w h)
  refine lv_aload_n hx hb dL_tells_0 rfl (lv_at hl 2 rfl) ?_
  refine lv_iconst (v := 0) hx hb dL_tells_1 (by decide) ?_
  refine va_iald hx hb hK hP 3 0 rfl rfl hw.1 dL_tells_2 ?_
  have hw := hw.2
  refine lv_topi (fun x_1 ex_1 => ?_)
  have hw := hw x_1 ex_1
  refine W_abs (fun QM hQM => ?_)
  have JN401 : ∀ (c_2 : Nat) (f_3 : Nat → Int32) (k_4 : Int32) (r__5 : Nat → Int32) (v_6 : Nat) (H : Heap) (locs : List Loc), (wj_L_tells_401 n_r_ Q) c_2 f_3 k_4 r__5 → va_P (dC, dI) vwCl [(a_r_, .inl (g 0, n_r_, .inl r__5)), (a_text, .inr (1, [.ref v_6, .int 0, .int 0, .int k_4])), (v_6, .inl (g 2, c_2, .inl f_3)), (a_d_, .inl (g 0, n_d_, .inl d_))] H → va_D A [(a_r_, .inl (g 0, n_r_, .inl r__5)), (a_text, .inr (1, [.ref v_6, .int 0, .int 0, .int k_4])), (v_6, .inl (g 2, c_2, .inl f_3)), (a_d_, .inl (g 0, n_d_, .inl d_))] → va_S A s.heap H locs → ∀ (ls : Array Slot), lv_has ls 3 [(0, .ref a_r_), (1, .ref a_text)] → W p l e (headSpec wqL_tells ({ frames := 6, cells := 23, slots := 38016, locals := 171 })).room s m ([.ref a_r_, .ref a_text, .ref a_d_] : List Value).toArray below meth c H locs 22 36016 QM (F0 m 401 ls []) := by
    intro c_2 f_3 k_4 r__5 v_6 H locs hw hP hD hS ls hl
    refine lv_aload_n hx hb dL_tells_401 rfl (lv_at hl 1 rfl) ?_
    refine lv_aload_n hx hb dL_tells_402 rfl (lv_at hl 0 rfl) ?_
    refine lv_iconst (v := 3) hx hb dL_tells_403 (by decide) ?_
    obtain ⟨hPs, hDs⟩ := seg_call (segs := [[(a_r_, .inl (g 0, n_r_, .inl r__5))], [(a_text, .inr (1, [.ref v_6, .int 0, .int 0, .int k_4]))], [(v_6, .inl (g 2, c_2, .inl f_3))], [(a_d_, .inl (g 0, n_d_, .inl d_))]]) [[(a_text, .inr (1, [.ref v_6, .int 0, .int 0, .int k_4]))], [(v_6, .inl (g 2, c_2, .inl f_3))], [(a_d_, .inl (g 0, n_d_, .inl d_))]] [[(a_r_, .inl (g 0, n_r_, .inl r__5))]] 4 [1, 2, 3, 0] rfl rfl (by decide) hP hD
    have hPc : va_P (dC, dI) vwCl [(a_r_, .inl (g 0, n_r_, .inl r__5))] H := P_r hPs
    have hDc : va_D A [(a_r_, .inl (g 0, n_r_, .inl r__5))] := D_r hDs
    have hFc : ∀ q, va_A [(a_r_, .inl (g 0, n_r_, .inl r__5))] H.size q → A q := A_all hDc hA hS.1
    refine va_calli (va_runS (As := [.ref a_r_, .int 3]) (rest := [.ref a_text]) ⟨hx, hb, hml, hown, hts⟩ (c_L_draw l hlf dC dI g (a_r_ := a_r_) (n_r_ := n_r_) (r_ := r__5) (many := 3) (hw := hw) (sz := H.size)) (va_cwS 2 hts (gqS aw_2_215 aw_2_216 aw_1_0 aw_2_217) rfl rfl rfl (by decide +kernel) ⟨Nat.le_of_ble_eq_true rfl, Nat.le_of_ble_eq_true rfl⟩) ⟨PG_blind, PG_call hK hG hS hPc hDc hFc⟩ rfl rfl hl.1 rfl (lv_room (Nat.le_of_ble_eq_true rfl)) dL_tells_404 ⟨by rw [hrc]; omega, by rw [hrs]; omega⟩) hS (fun q _ h => hFc q h) hFc (fun r_7 u_7 t_7 H_7 L_7 ht_7 hvm_7 hw_7 hB_7 hz_7 hk_7 hS => ?_)
    obtain ⟨r__8, u_7⟩ := u_7
    have hw := hw_7
    rw [ht_7] at hB_7
    obtain ⟨hP1, hD1⟩ := hB_7
    obtain ⟨hP, hD⟩ := join_r hPs hDs hk_7 hFc hP1 hD1
    obtain ⟨hP, hD⟩ := seg_join [[(a_text, .inr (1, [.ref v_6, .int 0, .int 0, .int k_4]))], [(v_6, .inl (g 2, c_2, .inl f_3))], [(a_d_, .inl (g 0, n_d_, .inl d_))]] [[(a_r_, .inl (g 0, n_r_, .inl r__8))]] [[(a_r_, .inl (g 0, n_r_, .inl r__8))], [(a_text, .inr (1, [.ref v_6, .int 0, .int 0, .int k_4]))], [(v_6, .inl (g 2, c_2, .inl f_3))], [(a_d_, .inl (g 0, n_d_, .inl d_))]] 4 [3, 0, 1, 2] rfl rfl (by decide) hP hD
    have hP : va_P (dC, dI) vwCl [(a_r_, .inl (g 0, n_r_, .inl r__8)), (a_text, .inr (1, [.ref v_6, .int 0, .int 0, .int k_4])), (v_6, .inl (g 2, c_2, .inl f_3)), (a_d_, .inl (g 0, n_d_, .inl d_))] H_7 := hP
    have hD : va_D A [(a_r_, .inl (g 0, n_r_, .inl r__8)), (a_text, .inr (1, [.ref v_6, .int 0, .int 0, .int k_4])), (v_6, .inl (g 2, c_2, .inl f_3)), (a_d_, .inl (g 0, n_d_, .inl d_))] := hD
    refine W.widen (k := 22) (n := 36016) (by omega) (by omega) ?_
    have JN419 : ∀ (sn_10 : Nat) (sf_11 : Nat → Int32) (as_9 : Nat) (has_9 : GSb sn_10 sf_11 as_9 A s) (H : Heap) (locs : List Loc), (wj_L_tells_419 Q c_2 f_3 k_4 r__8) sn_10 sf_11 → va_P (dC, dI) vwCl [(a_r_, .inl (g 0, n_r_, .inl r__8)), (a_text, .inr (1, [.ref v_6, .int 0, .int 0, .int k_4])), (v_6, .inl (g 2, c_2, .inl f_3)), (a_d_, .inl (g 0, n_d_, .inl d_))] H → va_D A [(a_r_, .inl (g 0, n_r_, .inl r__8)), (a_text, .inr (1, [.ref v_6, .int 0, .int 0, .int k_4])), (v_6, .inl (g 2, c_2, .inl f_3)), (a_d_, .inl (g 0, n_d_, .inl d_))] → va_S A s.heap H locs → ∀ (ls : Array Slot), lv_has ls 3 [] → W p l e (headSpec wqL_tells ({ frames := 6, cells := 23, slots := 38016, locals := 171 })).room s m ([.ref a_r_, .ref a_text, .ref a_d_] : List Value).toArray below meth c H locs 22 36016 QM (F0 m 419 ls [.ref as_9, .ref a_text]) := by
      intro sn_10 sf_11 as_9 has_9 H locs hw hP hD hS ls hl
      obtain ⟨hPs, hDs⟩ := seg_call (segs := [[(a_r_, .inl (g 0, n_r_, .inl r__8))], [(a_text, .inr (1, [.ref v_6, .int 0, .int 0, .int k_4]))], [(v_6, .inl (g 2, c_2, .inl f_3))], [(a_d_, .inl (g 0, n_d_, .inl d_))]]) [[(a_r_, .inl (g 0, n_r_, .inl r__8))], [(a_d_, .inl (g 0, n_d_, .inl d_))]] [[(a_text, .inr (1, [.ref v_6, .int 0, .int 0, .int k_4]))], [(v_6, .inl (g 2, c_2, .inl f_3))]] 4 [0, 3, 1, 2] rfl rfl (by decide) hP hD
      have hPc : va_P (dC, dI) vwCl [(a_text, .inr (1, [.ref v_6, .int 0, .int 0, .int k_4])), (v_6, .inl (g 2, c_2, .inl f_3))] H := P_r hPs
      have hDc : va_D A [(a_text, .inr (1, [.ref v_6, .int 0, .int 0, .int k_4])), (v_6, .inl (g 2, c_2, .inl f_3))] := D_r hDs
      have hFc : ∀ q, va_A [(a_text, .inr (1, [.ref v_6, .int 0, .int 0, .int k_4])), (v_6, .inl (g 2, c_2, .inl f_3))] H.size q → A q := A_all hDc hA hS.1
      refine va_callq (va_runV (As := [.ref as_9]) (rest := []) ⟨hx, hb, hml, hown, hts⟩ (c_J4_append_15ec4 l dC dI g (a_this_ := a_text) (v_this_ := v_6) (c_this_ := c_2) (f_this_ := f_3) (k_this_ := k_4) (a_s_ := as_9) (s__n := sn_10) (s__f := sf_11) (hw := hw) (sz := H.size)) (cwV 1 hts (gqV aw_7_20 aw_6_139 aw_6_140 aw_1_26 aw_6_141) rfl rfl rfl (by decide +kernel) ⟨Nat.le_of_ble_eq_true rfl, Nat.le_of_ble_eq_true rfl⟩) ⟨PX_blind (GSb_go sn_10 sf_11 as_9), va_recv hK hP (ci := 1) (q0 := 1) rfl rfl, PX_call (GSb_go sn_10 sf_11 as_9) hK hG hS hPc hDc hFc has_9⟩ rfl rfl hl.1 rfl (lv_room (Nat.le_of_ble_eq_true rfl)) dL_tells_419 ⟨by rw [hrc]; omega, by rw [hrs]; omega⟩) hS (fun q _ h => hFc q h) hFc (fun r_13 u_13 t_13 H_13 L_13 ht_13 hvm_13 hw_13 hB_13 hz_13 hk_13 hS => ?_)
      obtain ⟨v_14, c_15, f_16, k_17, u_13⟩ := u_13
      obtain ⟨rfl, hw⟩ := hw_13
      rw [ht_13] at hB_13
      obtain ⟨hP1, hD1⟩ := hB_13
      obtain ⟨hP, hD⟩ := join_r hPs hDs hk_13 hFc hP1 hD1
      obtain ⟨hP, hD⟩ := seg_join [[(a_r_, .inl (g 0, n_r_, .inl r__8))], [(a_d_, .inl (g 0, n_d_, .inl d_))]] [[(a_text, .inr (1, [.ref v_14, .int 0, .int 0, .int k_17]))], [(v_14, .inl (g 2, c_15, .inl f_16))]] [[(a_r_, .inl (g 0, n_r_, .inl r__8))], [(a_text, .inr (1, [.ref v_14, .int 0, .int 0, .int k_17]))], [(v_14, .inl (g 2, c_15, .inl f_16))], [(a_d_, .inl (g 0, n_d_, .inl d_))]] 4 [0, 2, 3, 1] rfl rfl (by decide) hP hD
      have hP : va_P (dC, dI) vwCl [(a_r_, .inl (g 0, n_r_, .inl r__8)), (a_text, .inr (1, [.ref v_14, .int 0, .int 0, .int k_17])), (v_14, .inl (g 2, c_15, .inl f_16)), (a_d_, .inl (g 0, n_d_, .inl d_))] H_13 := hP
      have hD : va_D A [(a_r_, .inl (g 0, n_r_, .inl r__8)), (a_text, .inr (1, [.ref v_14, .int 0, .int 0, .int k_17])), (v_14, .inl (g 2, c_15, .inl f_16)), (a_d_, .inl (g 0, n_d_, .inl d_))] := hD
      refine W.widen (k := 23) (n := 38016) (by omega) (by omega) ?_
      refine lv_pop hx hb dL_tells_422 rfl ?_
      refine W.widen (k := 23) (n := 38016) (by omega) (by omega) ?_
      subst hQM
      exact W.vret hx hb hr (fun t ht hW => ⟨⟨(r__8, v_14, c_15, f_16, k_17, ()), rfl, hw, ⟨P_at ht hP, hD⟩⟩, hS.F ht⟩) hS.2.2 dL_tells_423
    refine lv_if_ne (tgt := 416) hx hb dL_tells_407 (by decide) (fun c_18 => ?_) (fun c_18 => ?_)
    · have hw := hw.2 c_18
      obtain ⟨as_42, hR_42, hT_42⟩ := GSb_of (sx_42 hG)
      refine va_ldcSw hx hb hown hR_42 dL_tells_416 ?_
      refine W.widen (k := 22) (n := 36016) (by omega) (by omega) ?_
      exact JN419 (tn 41) (tb 41) as_42 hT_42 _ _ hw hP hD hS _ (lv_sub hl [] rfl)
    · have hw := hw.1 c_18
      obtain ⟨as_41, hR_41, hT_41⟩ := GSb_of (sx_41 hG)
      refine va_ldcSw hx hb hown hR_41 dL_tells_410 ?_
      refine lv_goto (tgt := 419) hx hb dL_tells_413 (by decide) ?_
      refine W.widen (k := 22) (n := 36016) (by omega) (by omega) ?_
      exact JN419 (tn 40) (tb 40) as_41 hT_41 _ _ hw hP hD hS _ (lv_sub hl [] rfl)
  refine lv_if_ne (tgt := 241) hx hb dL_tells_3 (by decide) (fun c_19 => ?_) (fun c_19 => ?_)
  · have hw := hw.2 c_19
    refine lv_aload_n hx hb dL_tells_241 rfl (lv_at hl 2 rfl) ?_
    refine lv_iconst (v := 0) hx hb dL_tells_242 (by decide) ?_
    refine va_iald hx hb hK hP 3 0 rfl rfl hw.1 dL_tells_243 ?_
    have hw := hw.2
    refine lv_topi (fun x_20 ex_20 => ?_)
    have hw := hw x_20 ex_20
    refine lv_iconst (v := 4) hx hb dL_tells_244 (by decide) ?_
    refine lv_icmp_ge (tgt := 310) hx hb dL_tells_245 (by decide) (fun c_21 => ?_) (fun c_21 => ?_)
    · have hw := hw.1 c_21
      refine lv_aload_n hx hb dL_tells_310 rfl (lv_at hl 2 rfl) ?_
      refine lv_iconst (v := 0) hx hb dL_tells_311 (by decide) ?_
      refine va_iald hx hb hK hP 3 0 rfl rfl hw.1 dL_tells_312 ?_
      have hw := hw.2
      refine lv_topi (fun x_22 ex_22 => ?_)
      have hw := hw x_22 ex_22
      refine lv_iconst (v := 4) hx hb dL_tells_313 (by decide) ?_
      refine lv_icmp_ne (tgt := 346) hx hb dL_tells_314 (by decide) (fun c_23 => ?_) (fun c_23 => ?_)
      · have hw := hw.2 c_23
        refine lv_aload_n hx hb dL_tells_346 rfl (lv_at hl 1 rfl) ?_
        refine lv_aload_n hx hb dL_tells_347 rfl (lv_at hl 2 rfl) ?_
        refine lv_iconst (v := 0) hx hb dL_tells_348 (by decide) ?_
        refine va_iald hx hb hK hP 3 0 rfl rfl hw.1 dL_tells_349 ?_
        have hw := hw.2
        refine lv_topi (fun x_24 ex_24 => ?_)
        have hw := hw x_24 ex_24
        refine lv_iconst (v := 5) hx hb dL_tells_350 (by decide) ?_
        have JN391 : ∀ (sn_26 : Nat) (sf_27 : Nat → Int32) (as_25 : Nat) (has_25 : GSb sn_26 sf_27 as_25 A s) (H : Heap) (locs : List Loc), (wj_L_tells_391 n_r_ r_ c_text f_text k_text n_d_ d_ Q) sn_26 sf_27 → va_P (dC, dI) vwCl [(a_r_, .inl (g 0, n_r_, .inl r_)), (a_text, .inr (1, [.ref v_text, .int 0, .int 0, .int k_text])), (v_text, .inl (g 2, c_text, .inl f_text)), (a_d_, .inl (g 0, n_d_, .inl d_))] H → va_D A [(a_r_, .inl (g 0, n_r_, .inl r_)), (a_text, .inr (1, [.ref v_text, .int 0, .int 0, .int k_text])), (v_text, .inl (g 2, c_text, .inl f_text)), (a_d_, .inl (g 0, n_d_, .inl d_))] → va_S A s.heap H locs → ∀ (ls : Array Slot), lv_has ls 3 [(0, .ref a_r_), (1, .ref a_text), (2, .ref a_d_)] → W p l e (headSpec wqL_tells ({ frames := 6, cells := 23, slots := 38016, locals := 171 })).room s m ([.ref a_r_, .ref a_text, .ref a_d_] : List Value).toArray below meth c H locs 0 0 QM (F0 m 391 ls [.ref as_25, .ref a_text]) := by
          intro sn_26 sf_27 as_25 has_25 H locs hw hP hD hS ls hl
          obtain ⟨hPs, hDs⟩ := seg_call (segs := [[(a_r_, .inl (g 0, n_r_, .inl r_))], [(a_text, .inr (1, [.ref v_text, .int 0, .int 0, .int k_text]))], [(v_text, .inl (g 2, c_text, .inl f_text))], [(a_d_, .inl (g 0, n_d_, .inl d_))]]) [[(a_r_, .inl (g 0, n_r_, .inl r_))], [(a_d_, .inl (g 0, n_d_, .inl d_))]] [[(a_text, .inr (1, [.ref v_text, .int 0, .int 0, .int k_text]))], [(v_text, .inl (g 2, c_text, .inl f_text))]] 4 [0, 3, 1, 2] rfl rfl (by decide) hP hD
          have hPc : va_P (dC, dI) vwCl [(a_text, .inr (1, [.ref v_text, .int 0, .int 0, .int k_text])), (v_text, .inl (g 2, c_text, .inl f_text))] H := P_r hPs
          have hDc : va_D A [(a_text, .inr (1, [.ref v_text, .int 0, .int 0, .int k_text])), (v_text, .inl (g 2, c_text, .inl f_text))] := D_r hDs
          have hFc : ∀ q, va_A [(a_text, .inr (1, [.ref v_text, .int 0, .int 0, .int k_text])), (v_text, .inl (g 2, c_text, .inl f_text))] H.size q → A q := A_all hDc hA hS.1
          refine va_callq (va_runV (As := [.ref as_25]) (rest := []) ⟨hx, hb, hml, hown, hts⟩ (c_J4_append_15ec4 l dC dI g (a_this_ := a_text) (v_this_ := v_text) (c_this_ := c_text) (f_this_ := f_text) (k_this_ := k_text) (a_s_ := as_25) (s__n := sn_26) (s__f := sf_27) (hw := hw) (sz := H.size)) (cwV 1 hts (gqV aw_7_20 aw_6_139 aw_6_140 aw_1_26 aw_6_141) rfl rfl rfl (by decide +kernel) ⟨Nat.le_of_ble_eq_true rfl, Nat.le_of_ble_eq_true rfl⟩) ⟨PX_blind (GSb_go sn_26 sf_27 as_25), va_recv hK hP (ci := 1) (q0 := 1) rfl rfl, PX_call (GSb_go sn_26 sf_27 as_25) hK hG hS hPc hDc hFc has_25⟩ rfl rfl hl.1 rfl (lv_room (Nat.le_of_ble_eq_true rfl)) dL_tells_391 ⟨by rw [hrc]; omega, by rw [hrs]; omega⟩) hS (fun q _ h => hFc q h) hFc (fun r_29 u_29 t_29 H_29 L_29 ht_29 hvm_29 hw_29 hB_29 hz_29 hk_29 hS => ?_)
          obtain ⟨v_30, c_31, f_32, k_33, u_29⟩ := u_29
          obtain ⟨rfl, hw⟩ := hw_29
          rw [ht_29] at hB_29
          obtain ⟨hP1, hD1⟩ := hB_29
          obtain ⟨hP, hD⟩ := join_r hPs hDs hk_29 hFc hP1 hD1
          obtain ⟨hP, hD⟩ := seg_join [[(a_r_, .inl (g 0, n_r_, .inl r_))], [(a_d_, .inl (g 0, n_d_, .inl d_))]] [[(a_text, .inr (1, [.ref v_30, .int 0, .int 0, .int k_33]))], [(v_30, .inl (g 2, c_31, .inl f_32))]] [[(a_r_, .inl (g 0, n_r_, .inl r_))], [(a_text, .inr (1, [.ref v_30, .int 0, .int 0, .int k_33]))], [(v_30, .inl (g 2, c_31, .inl f_32))], [(a_d_, .inl (g 0, n_d_, .inl d_))]] 4 [0, 2, 3, 1] rfl rfl (by decide) hP hD
          have hP : va_P (dC, dI) vwCl [(a_r_, .inl (g 0, n_r_, .inl r_)), (a_text, .inr (1, [.ref v_30, .int 0, .int 0, .int k_33])), (v_30, .inl (g 2, c_31, .inl f_32)), (a_d_, .inl (g 0, n_d_, .inl d_))] H_29 := hP
          have hD : va_D A [(a_r_, .inl (g 0, n_r_, .inl r_)), (a_text, .inr (1, [.ref v_30, .int 0, .int 0, .int k_33])), (v_30, .inl (g 2, c_31, .inl f_32)), (a_d_, .inl (g 0, n_d_, .inl d_))] := hD
          refine W.widen (k := 1) (n := 2000) (by omega) (by omega) ?_
          refine lv_aload_n hx hb dL_tells_394 rfl (lv_at hl 2 rfl) ?_
          refine lv_iconst (v := 1) hx hb dL_tells_395 (by decide) ?_
          refine va_iald hx hb hK hP 3 0 rfl rfl hw.1 dL_tells_396 ?_
          have hw := hw.2
          refine lv_topi (fun x_34 ex_34 => ?_)
          have hw := hw x_34 ex_34
          obtain ⟨hPs, hDs⟩ := seg_call (segs := [[(a_r_, .inl (g 0, n_r_, .inl r_))], [(a_text, .inr (1, [.ref v_30, .int 0, .int 0, .int k_33]))], [(v_30, .inl (g 2, c_31, .inl f_32))], [(a_d_, .inl (g 0, n_d_, .inl d_))]]) [[(a_r_, .inl (g 0, n_r_, .inl r_))], [(a_d_, .inl (g 0, n_d_, .inl d_))]] [[(a_text, .inr (1, [.ref v_30, .int 0, .int 0, .int k_33]))], [(v_30, .inl (g 2, c_31, .inl f_32))]] 4 [0, 3, 1, 2] rfl rfl (by decide) hP hD
          have hPc : va_P (dC, dI) vwCl [(a_text, .inr (1, [.ref v_30, .int 0, .int 0, .int k_33])), (v_30, .inl (g 2, c_31, .inl f_32))] H_29 := P_r hPs
          have hDc : va_D A [(a_text, .inr (1, [.ref v_30, .int 0, .int 0, .int k_33])), (v_30, .inl (g 2, c_31, .inl f_32))] := D_r hDs
          have hFc : ∀ q, va_A [(a_text, .inr (1, [.ref v_30, .int 0, .int 0, .int k_33])), (v_30, .inl (g 2, c_31, .inl f_32))] H_29.size q → A q := A_all hDc hA hS.1
          refine va_callq (va_runV (As := [.int x_34]) (rest := []) ⟨hx, hb, hml, hown, hts⟩ (c_J4_append_bf812 l dC dI g (a_this_ := a_text) (v_this_ := v_30) (c_this_ := c_31) (f_this_ := f_32) (k_this_ := k_33) (i_ := x_34) (hw := hw) (sz := H_29.size)) (cwV 1 hts (gqV aw_7_21 aw_7_22 aw_7_23 aw_1_26 aw_7_24) rfl rfl rfl (by decide +kernel) ⟨Nat.le_of_ble_eq_true rfl, Nat.le_of_ble_eq_true rfl⟩) ⟨PG_blind, va_recv hK hP (ci := 1) (q0 := 1) rfl rfl, PG_call hK hG hS hPc hDc hFc⟩ rfl rfl hl.1 rfl (lv_room (Nat.le_of_ble_eq_true rfl)) dL_tells_397 ⟨by rw [hrc]; omega, by rw [hrs]; omega⟩) hS (fun q _ h => hFc q h) hFc (fun r_36 u_36 t_36 H_36 L_36 ht_36 hvm_36 hw_36 hB_36 hz_36 hk_36 hS => ?_)
          obtain ⟨v_37, c_38, f_39, k_40, u_36⟩ := u_36
          obtain ⟨rfl, hw⟩ := hw_36
          rw [ht_36] at hB_36
          obtain ⟨hP1, hD1⟩ := hB_36
          obtain ⟨hP, hD⟩ := join_r hPs hDs hk_36 hFc hP1 hD1
          obtain ⟨hP, hD⟩ := seg_join [[(a_r_, .inl (g 0, n_r_, .inl r_))], [(a_d_, .inl (g 0, n_d_, .inl d_))]] [[(a_text, .inr (1, [.ref v_37, .int 0, .int 0, .int k_40]))], [(v_37, .inl (g 2, c_38, .inl f_39))]] [[(a_r_, .inl (g 0, n_r_, .inl r_))], [(a_text, .inr (1, [.ref v_37, .int 0, .int 0, .int k_40]))], [(v_37, .inl (g 2, c_38, .inl f_39))], [(a_d_, .inl (g 0, n_d_, .inl d_))]] 4 [0, 2, 3, 1] rfl rfl (by decide) hP hD
          have hP : va_P (dC, dI) vwCl [(a_r_, .inl (g 0, n_r_, .inl r_)), (a_text, .inr (1, [.ref v_37, .int 0, .int 0, .int k_40])), (v_37, .inl (g 2, c_38, .inl f_39)), (a_d_, .inl (g 0, n_d_, .inl d_))] H_36 := hP
          have hD : va_D A [(a_r_, .inl (g 0, n_r_, .inl r_)), (a_text, .inr (1, [.ref v_37, .int 0, .int 0, .int k_40])), (v_37, .inl (g 2, c_38, .inl f_39)), (a_d_, .inl (g 0, n_d_, .inl d_))] := hD
          refine W.widen (k := 2) (n := 4000) (by omega) (by omega) ?_
          refine lv_pop hx hb dL_tells_400 rfl ?_
          refine W.widen (k := 22) (n := 36016) (by omega) (by omega) ?_
          exact JN401 c_38 f_39 k_40 r_ v_37 _ _ hw hP hD hS _ (lv_sub hl [0, 1] rfl)
        refine lv_icmp_ne (tgt := 360) hx hb dL_tells_351 (by decide) (fun c_41 => ?_) (fun c_41 => ?_)
        · have hw := hw.2 c_41
          refine lv_aload_n hx hb dL_tells_360 rfl (lv_at hl 2 rfl) ?_
          refine lv_iconst (v := 0) hx hb dL_tells_361 (by decide) ?_
          refine va_iald hx hb hK hP 3 0 rfl rfl hw.1 dL_tells_362 ?_
          have hw := hw.2
          refine lv_topi (fun x_42 ex_42 => ?_)
          have hw := hw x_42 ex_42
          refine lv_bipush (v := 6) hx hb dL_tells_363 (by decide) ?_
          refine lv_icmp_ne (tgt := 374) hx hb dL_tells_365 (by decide) (fun c_43 => ?_) (fun c_43 => ?_)
          · have hw := hw.2 c_43
            refine lv_aload_n hx hb dL_tells_374 rfl (lv_at hl 2 rfl) ?_
            refine lv_iconst (v := 0) hx hb dL_tells_375 (by decide) ?_
            refine va_iald hx hb hK hP 3 0 rfl rfl hw.1 dL_tells_376 ?_
            have hw := hw.2
            refine lv_topi (fun x_44 ex_44 => ?_)
            have hw := hw x_44 ex_44
            refine lv_bipush (v := 7) hx hb dL_tells_377 (by decide) ?_
            refine lv_icmp_ne (tgt := 388) hx hb dL_tells_379 (by decide) (fun c_45 => ?_) (fun c_45 => ?_)
            · have hw := hw.2 c_45
              obtain ⟨as_40, hR_40, hT_40⟩ := GSb_of (sx_40 hG)
              refine va_ldcSw hx hb hown hR_40 dL_tells_388 ?_
              refine W.widen (k := 0) (n := 0) (by omega) (by omega) ?_
              exact JN391 (tn 39) (tb 39) as_40 hT_40 _ _ hw hP hD hS _ (lv_sub hl [0, 1, 2] rfl)
            · have hw := hw.1 c_45
              obtain ⟨as_39, hR_39, hT_39⟩ := GSb_of (sx_39 hG)
              refine va_ldcSw hx hb hown hR_39 dL_tells_382 ?_
              refine lv_goto (tgt := 391) hx hb dL_tells_385 (by decide) ?_
              refine W.widen (k := 0) (n := 0) (by omega) (by omega) ?_
              exact JN391 (tn 38) (tb 38) as_39 hT_39 _ _ hw hP hD hS _ (lv_sub hl [0, 1, 2] rfl)
          · have hw := hw.1 c_43
            obtain ⟨as_38, hR_38, hT_38⟩ := GSb_of (sx_38 hG)
            refine va_ldcSw hx hb hown hR_38 dL_tells_368 ?_
            refine lv_goto (tgt := 391) hx hb dL_tells_371 (by decide) ?_
            refine W.widen (k := 0) (n := 0) (by omega) (by omega) ?_
            exact JN391 (tn 37) (tb 37) as_38 hT_38 _ _ hw hP hD hS _ (lv_sub hl [0, 1, 2] rfl)
        · have hw := hw.1 c_41
          obtain ⟨as_37, hR_37, hT_37⟩ := GSb_of (sx_37 hG)
          refine va_ldcSw hx hb hown hR_37 dL_tells_354 ?_
          refine lv_goto (tgt := 391) hx hb dL_tells_357 (by decide) ?_
          refine W.widen (k := 0) (n := 0) (by omega) (by omega) ?_
          exact JN391 (tn 36) (tb 36) as_37 hT_37 _ _ hw hP hD hS _ (lv_sub hl [0, 1, 2] rfl)
      · have hw := hw.1 c_23
        refine lv_aload_n hx hb dL_tells_317 rfl (lv_at hl 1 rfl) ?_
        obtain ⟨as_35, hR_35, hT_35⟩ := GSb_of (sx_35 hG)
        refine va_ldcSw hx hb hown hR_35 dL_tells_318 ?_
        obtain ⟨hPs, hDs⟩ := seg_call (segs := [[(a_r_, .inl (g 0, n_r_, .inl r_))], [(a_text, .inr (1, [.ref v_text, .int 0, .int 0, .int k_text]))], [(v_text, .inl (g 2, c_text, .inl f_text))], [(a_d_, .inl (g 0, n_d_, .inl d_))]]) [[(a_r_, .inl (g 0, n_r_, .inl r_))], [(a_d_, .inl (g 0, n_d_, .inl d_))]] [[(a_text, .inr (1, [.ref v_text, .int 0, .int 0, .int k_text]))], [(v_text, .inl (g 2, c_text, .inl f_text))]] 4 [0, 3, 1, 2] rfl rfl (by decide) hP hD
        have hPc : va_P (dC, dI) vwCl [(a_text, .inr (1, [.ref v_text, .int 0, .int 0, .int k_text])), (v_text, .inl (g 2, c_text, .inl f_text))] s.heap := P_r hPs
        have hDc : va_D A [(a_text, .inr (1, [.ref v_text, .int 0, .int 0, .int k_text])), (v_text, .inl (g 2, c_text, .inl f_text))] := D_r hDs
        have hFc : ∀ q, va_A [(a_text, .inr (1, [.ref v_text, .int 0, .int 0, .int k_text])), (v_text, .inl (g 2, c_text, .inl f_text))] s.heap.size q → A q := A_all hDc hA hS.1
        refine va_callq (va_runV (As := [.ref as_35]) (rest := []) ⟨hx, hb, hml, hown, hts⟩ (c_J4_append_15ec4 l dC dI g (a_this_ := a_text) (v_this_ := v_text) (c_this_ := c_text) (f_this_ := f_text) (k_this_ := k_text) (a_s_ := as_35) (s__n := (tn 34)) (s__f := (tb 34)) (hw := hw) (sz := s.heap.size)) (cwV 1 hts (gqV aw_7_20 aw_6_139 aw_6_140 aw_1_26 aw_6_141) rfl rfl rfl (by decide +kernel) ⟨Nat.le_of_ble_eq_true rfl, Nat.le_of_ble_eq_true rfl⟩) ⟨PX_blind (GSb_go (tn 34) (tb 34) as_35), va_recv hK hP (ci := 1) (q0 := 1) rfl rfl, PX_call (GSb_go (tn 34) (tb 34) as_35) hK hG hS hPc hDc hFc hT_35⟩ rfl rfl hl.1 rfl (lv_room (Nat.le_of_ble_eq_true rfl)) dL_tells_321 ⟨by rw [hrc]; omega, by rw [hrs]; omega⟩) hS (fun q _ h => hFc q h) hFc (fun r_47 u_47 t_47 H_47 L_47 ht_47 hvm_47 hw_47 hB_47 hz_47 hk_47 hS => ?_)
        obtain ⟨v_48, c_49, f_50, k_51, u_47⟩ := u_47
        obtain ⟨rfl, hw⟩ := hw_47
        rw [ht_47] at hB_47
        obtain ⟨hP1, hD1⟩ := hB_47
        obtain ⟨hP, hD⟩ := join_r hPs hDs hk_47 hFc hP1 hD1
        obtain ⟨hP, hD⟩ := seg_join [[(a_r_, .inl (g 0, n_r_, .inl r_))], [(a_d_, .inl (g 0, n_d_, .inl d_))]] [[(a_text, .inr (1, [.ref v_48, .int 0, .int 0, .int k_51]))], [(v_48, .inl (g 2, c_49, .inl f_50))]] [[(a_r_, .inl (g 0, n_r_, .inl r_))], [(a_text, .inr (1, [.ref v_48, .int 0, .int 0, .int k_51]))], [(v_48, .inl (g 2, c_49, .inl f_50))], [(a_d_, .inl (g 0, n_d_, .inl d_))]] 4 [0, 2, 3, 1] rfl rfl (by decide) hP hD
        have hP : va_P (dC, dI) vwCl [(a_r_, .inl (g 0, n_r_, .inl r_)), (a_text, .inr (1, [.ref v_48, .int 0, .int 0, .int k_51])), (v_48, .inl (g 2, c_49, .inl f_50)), (a_d_, .inl (g 0, n_d_, .inl d_))] H_47 := hP
        have hD : va_D A [(a_r_, .inl (g 0, n_r_, .inl r_)), (a_text, .inr (1, [.ref v_48, .int 0, .int 0, .int k_51])), (v_48, .inl (g 2, c_49, .inl f_50)), (a_d_, .inl (g 0, n_d_, .inl d_))] := hD
        refine W.widen (k := 1) (n := 2000) (by omega) (by omega) ?_
        refine lv_aload_n hx hb dL_tells_324 rfl (lv_at hl 2 rfl) ?_
        refine lv_iconst (v := 1) hx hb dL_tells_325 (by decide) ?_
        refine va_iald hx hb hK hP 3 0 rfl rfl hw.1 dL_tells_326 ?_
        have hw := hw.2
        refine lv_topi (fun x_52 ex_52 => ?_)
        have hw := hw x_52 ex_52
        obtain ⟨hPs, hDs⟩ := seg_call (segs := [[(a_r_, .inl (g 0, n_r_, .inl r_))], [(a_text, .inr (1, [.ref v_48, .int 0, .int 0, .int k_51]))], [(v_48, .inl (g 2, c_49, .inl f_50))], [(a_d_, .inl (g 0, n_d_, .inl d_))]]) [[(a_r_, .inl (g 0, n_r_, .inl r_))], [(a_d_, .inl (g 0, n_d_, .inl d_))]] [[(a_text, .inr (1, [.ref v_48, .int 0, .int 0, .int k_51]))], [(v_48, .inl (g 2, c_49, .inl f_50))]] 4 [0, 3, 1, 2] rfl rfl (by decide) hP hD
        have hPc : va_P (dC, dI) vwCl [(a_text, .inr (1, [.ref v_48, .int 0, .int 0, .int k_51])), (v_48, .inl (g 2, c_49, .inl f_50))] H_47 := P_r hPs
        have hDc : va_D A [(a_text, .inr (1, [.ref v_48, .int 0, .int 0, .int k_51])), (v_48, .inl (g 2, c_49, .inl f_50))] := D_r hDs
        have hFc : ∀ q, va_A [(a_text, .inr (1, [.ref v_48, .int 0, .int 0, .int k_51])), (v_48, .inl (g 2, c_49, .inl f_50))] H_47.size q → A q := A_all hDc hA hS.1
        refine va_callq (va_runV (As := [.int x_52]) (rest := []) ⟨hx, hb, hml, hown, hts⟩ (c_J4_append_bf812 l dC dI g (a_this_ := a_text) (v_this_ := v_48) (c_this_ := c_49) (f_this_ := f_50) (k_this_ := k_51) (i_ := x_52) (hw := hw) (sz := H_47.size)) (cwV 1 hts (gqV aw_7_21 aw_7_22 aw_7_23 aw_1_26 aw_7_24) rfl rfl rfl (by decide +kernel) ⟨Nat.le_of_ble_eq_true rfl, Nat.le_of_ble_eq_true rfl⟩) ⟨PG_blind, va_recv hK hP (ci := 1) (q0 := 1) rfl rfl, PG_call hK hG hS hPc hDc hFc⟩ rfl rfl hl.1 rfl (lv_room (Nat.le_of_ble_eq_true rfl)) dL_tells_327 ⟨by rw [hrc]; omega, by rw [hrs]; omega⟩) hS (fun q _ h => hFc q h) hFc (fun r_54 u_54 t_54 H_54 L_54 ht_54 hvm_54 hw_54 hB_54 hz_54 hk_54 hS => ?_)
        obtain ⟨v_55, c_56, f_57, k_58, u_54⟩ := u_54
        obtain ⟨rfl, hw⟩ := hw_54
        rw [ht_54] at hB_54
        obtain ⟨hP1, hD1⟩ := hB_54
        obtain ⟨hP, hD⟩ := join_r hPs hDs hk_54 hFc hP1 hD1
        obtain ⟨hP, hD⟩ := seg_join [[(a_r_, .inl (g 0, n_r_, .inl r_))], [(a_d_, .inl (g 0, n_d_, .inl d_))]] [[(a_text, .inr (1, [.ref v_55, .int 0, .int 0, .int k_58]))], [(v_55, .inl (g 2, c_56, .inl f_57))]] [[(a_r_, .inl (g 0, n_r_, .inl r_))], [(a_text, .inr (1, [.ref v_55, .int 0, .int 0, .int k_58]))], [(v_55, .inl (g 2, c_56, .inl f_57))], [(a_d_, .inl (g 0, n_d_, .inl d_))]] 4 [0, 2, 3, 1] rfl rfl (by decide) hP hD
        have hP : va_P (dC, dI) vwCl [(a_r_, .inl (g 0, n_r_, .inl r_)), (a_text, .inr (1, [.ref v_55, .int 0, .int 0, .int k_58])), (v_55, .inl (g 2, c_56, .inl f_57)), (a_d_, .inl (g 0, n_d_, .inl d_))] H_54 := hP
        have hD : va_D A [(a_r_, .inl (g 0, n_r_, .inl r_)), (a_text, .inr (1, [.ref v_55, .int 0, .int 0, .int k_58])), (v_55, .inl (g 2, c_56, .inl f_57)), (a_d_, .inl (g 0, n_d_, .inl d_))] := hD
        refine W.widen (k := 2) (n := 4000) (by omega) (by omega) ?_
        obtain ⟨as_36, hR_36, hT_36⟩ := GSb_of (sx_36 hG)
        refine va_ldcSw hx hb hown hR_36 dL_tells_330 ?_
        obtain ⟨hPs, hDs⟩ := seg_call (segs := [[(a_r_, .inl (g 0, n_r_, .inl r_))], [(a_text, .inr (1, [.ref v_55, .int 0, .int 0, .int k_58]))], [(v_55, .inl (g 2, c_56, .inl f_57))], [(a_d_, .inl (g 0, n_d_, .inl d_))]]) [[(a_r_, .inl (g 0, n_r_, .inl r_))], [(a_d_, .inl (g 0, n_d_, .inl d_))]] [[(a_text, .inr (1, [.ref v_55, .int 0, .int 0, .int k_58]))], [(v_55, .inl (g 2, c_56, .inl f_57))]] 4 [0, 3, 1, 2] rfl rfl (by decide) hP hD
        have hPc : va_P (dC, dI) vwCl [(a_text, .inr (1, [.ref v_55, .int 0, .int 0, .int k_58])), (v_55, .inl (g 2, c_56, .inl f_57))] H_54 := P_r hPs
        have hDc : va_D A [(a_text, .inr (1, [.ref v_55, .int 0, .int 0, .int k_58])), (v_55, .inl (g 2, c_56, .inl f_57))] := D_r hDs
        have hFc : ∀ q, va_A [(a_text, .inr (1, [.ref v_55, .int 0, .int 0, .int k_58])), (v_55, .inl (g 2, c_56, .inl f_57))] H_54.size q → A q := A_all hDc hA hS.1
        refine va_callq (va_runV (As := [.ref as_36]) (rest := []) ⟨hx, hb, hml, hown, hts⟩ (c_J4_append_15ec4 l dC dI g (a_this_ := a_text) (v_this_ := v_55) (c_this_ := c_56) (f_this_ := f_57) (k_this_ := k_58) (a_s_ := as_36) (s__n := (tn 35)) (s__f := (tb 35)) (hw := hw) (sz := H_54.size)) (cwV 1 hts (gqV aw_7_20 aw_6_139 aw_6_140 aw_1_26 aw_6_141) rfl rfl rfl (by decide +kernel) ⟨Nat.le_of_ble_eq_true rfl, Nat.le_of_ble_eq_true rfl⟩) ⟨PX_blind (GSb_go (tn 35) (tb 35) as_36), va_recv hK hP (ci := 1) (q0 := 1) rfl rfl, PX_call (GSb_go (tn 35) (tb 35) as_36) hK hG hS hPc hDc hFc hT_36⟩ rfl rfl hl.1 rfl (lv_room (Nat.le_of_ble_eq_true rfl)) dL_tells_333 ⟨by rw [hrc]; omega, by rw [hrs]; omega⟩) hS (fun q _ h => hFc q h) hFc (fun r_60 u_60 t_60 H_60 L_60 ht_60 hvm_60 hw_60 hB_60 hz_60 hk_60 hS => ?_)
        obtain ⟨v_61, c_62, f_63, k_64, u_60⟩ := u_60
        obtain ⟨rfl, hw⟩ := hw_60
        rw [ht_60] at hB_60
        obtain ⟨hP1, hD1⟩ := hB_60
        obtain ⟨hP, hD⟩ := join_r hPs hDs hk_60 hFc hP1 hD1
        obtain ⟨hP, hD⟩ := seg_join [[(a_r_, .inl (g 0, n_r_, .inl r_))], [(a_d_, .inl (g 0, n_d_, .inl d_))]] [[(a_text, .inr (1, [.ref v_61, .int 0, .int 0, .int k_64]))], [(v_61, .inl (g 2, c_62, .inl f_63))]] [[(a_r_, .inl (g 0, n_r_, .inl r_))], [(a_text, .inr (1, [.ref v_61, .int 0, .int 0, .int k_64]))], [(v_61, .inl (g 2, c_62, .inl f_63))], [(a_d_, .inl (g 0, n_d_, .inl d_))]] 4 [0, 2, 3, 1] rfl rfl (by decide) hP hD
        have hP : va_P (dC, dI) vwCl [(a_r_, .inl (g 0, n_r_, .inl r_)), (a_text, .inr (1, [.ref v_61, .int 0, .int 0, .int k_64])), (v_61, .inl (g 2, c_62, .inl f_63)), (a_d_, .inl (g 0, n_d_, .inl d_))] H_60 := hP
        have hD : va_D A [(a_r_, .inl (g 0, n_r_, .inl r_)), (a_text, .inr (1, [.ref v_61, .int 0, .int 0, .int k_64])), (v_61, .inl (g 2, c_62, .inl f_63)), (a_d_, .inl (g 0, n_d_, .inl d_))] := hD
        refine W.widen (k := 3) (n := 6000) (by omega) (by omega) ?_
        refine lv_aload_n hx hb dL_tells_336 rfl (lv_at hl 2 rfl) ?_
        refine lv_iconst (v := 3) hx hb dL_tells_337 (by decide) ?_
        refine va_iald hx hb hK hP 3 0 rfl rfl hw.1 dL_tells_338 ?_
        have hw := hw.2
        refine lv_topi (fun x_65 ex_65 => ?_)
        have hw := hw x_65 ex_65
        obtain ⟨hPs, hDs⟩ := seg_call (segs := [[(a_r_, .inl (g 0, n_r_, .inl r_))], [(a_text, .inr (1, [.ref v_61, .int 0, .int 0, .int k_64]))], [(v_61, .inl (g 2, c_62, .inl f_63))], [(a_d_, .inl (g 0, n_d_, .inl d_))]]) [[(a_r_, .inl (g 0, n_r_, .inl r_))], [(a_d_, .inl (g 0, n_d_, .inl d_))]] [[(a_text, .inr (1, [.ref v_61, .int 0, .int 0, .int k_64]))], [(v_61, .inl (g 2, c_62, .inl f_63))]] 4 [0, 3, 1, 2] rfl rfl (by decide) hP hD
        have hPc : va_P (dC, dI) vwCl [(a_text, .inr (1, [.ref v_61, .int 0, .int 0, .int k_64])), (v_61, .inl (g 2, c_62, .inl f_63))] H_60 := P_r hPs
        have hDc : va_D A [(a_text, .inr (1, [.ref v_61, .int 0, .int 0, .int k_64])), (v_61, .inl (g 2, c_62, .inl f_63))] := D_r hDs
        have hFc : ∀ q, va_A [(a_text, .inr (1, [.ref v_61, .int 0, .int 0, .int k_64])), (v_61, .inl (g 2, c_62, .inl f_63))] H_60.size q → A q := A_all hDc hA hS.1
        refine va_callq (va_runV (As := [.int x_65]) (rest := []) ⟨hx, hb, hml, hown, hts⟩ (c_J4_append_bf812 l dC dI g (a_this_ := a_text) (v_this_ := v_61) (c_this_ := c_62) (f_this_ := f_63) (k_this_ := k_64) (i_ := x_65) (hw := hw) (sz := H_60.size)) (cwV 1 hts (gqV aw_7_21 aw_7_22 aw_7_23 aw_1_26 aw_7_24) rfl rfl rfl (by decide +kernel) ⟨Nat.le_of_ble_eq_true rfl, Nat.le_of_ble_eq_true rfl⟩) ⟨PG_blind, va_recv hK hP (ci := 1) (q0 := 1) rfl rfl, PG_call hK hG hS hPc hDc hFc⟩ rfl rfl hl.1 rfl (lv_room (Nat.le_of_ble_eq_true rfl)) dL_tells_339 ⟨by rw [hrc]; omega, by rw [hrs]; omega⟩) hS (fun q _ h => hFc q h) hFc (fun r_67 u_67 t_67 H_67 L_67 ht_67 hvm_67 hw_67 hB_67 hz_67 hk_67 hS => ?_)
        obtain ⟨v_68, c_69, f_70, k_71, u_67⟩ := u_67
        obtain ⟨rfl, hw⟩ := hw_67
        rw [ht_67] at hB_67
        obtain ⟨hP1, hD1⟩ := hB_67
        obtain ⟨hP, hD⟩ := join_r hPs hDs hk_67 hFc hP1 hD1
        obtain ⟨hP, hD⟩ := seg_join [[(a_r_, .inl (g 0, n_r_, .inl r_))], [(a_d_, .inl (g 0, n_d_, .inl d_))]] [[(a_text, .inr (1, [.ref v_68, .int 0, .int 0, .int k_71]))], [(v_68, .inl (g 2, c_69, .inl f_70))]] [[(a_r_, .inl (g 0, n_r_, .inl r_))], [(a_text, .inr (1, [.ref v_68, .int 0, .int 0, .int k_71]))], [(v_68, .inl (g 2, c_69, .inl f_70))], [(a_d_, .inl (g 0, n_d_, .inl d_))]] 4 [0, 2, 3, 1] rfl rfl (by decide) hP hD
        have hP : va_P (dC, dI) vwCl [(a_r_, .inl (g 0, n_r_, .inl r_)), (a_text, .inr (1, [.ref v_68, .int 0, .int 0, .int k_71])), (v_68, .inl (g 2, c_69, .inl f_70)), (a_d_, .inl (g 0, n_d_, .inl d_))] H_67 := hP
        have hD : va_D A [(a_r_, .inl (g 0, n_r_, .inl r_)), (a_text, .inr (1, [.ref v_68, .int 0, .int 0, .int k_71])), (v_68, .inl (g 2, c_69, .inl f_70)), (a_d_, .inl (g 0, n_d_, .inl d_))] := hD
        refine W.widen (k := 4) (n := 8000) (by omega) (by omega) ?_
        refine lv_pop hx hb dL_tells_342 rfl ?_
        refine lv_goto (tgt := 401) hx hb dL_tells_343 (by decide) ?_
        refine W.widen (k := 22) (n := 36016) (by omega) (by omega) ?_
        exact JN401 c_69 f_70 k_71 r_ v_68 _ _ hw hP hD hS _ (lv_sub hl [0, 1] rfl)
    · have hw := hw.2 c_21
      refine lv_aload_n hx hb dL_tells_248 rfl (lv_at hl 1 rfl) ?_
      refine lv_aload_n hx hb dL_tells_249 rfl (lv_at hl 2 rfl) ?_
      refine lv_iconst (v := 0) hx hb dL_tells_250 (by decide) ?_
      refine va_iald hx hb hK hP 3 0 rfl rfl hw.1 dL_tells_251 ?_
      have hw := hw.2
      refine lv_topi (fun x_72 ex_72 => ?_)
      have hw := hw x_72 ex_72
      refine lv_iconst (v := 1) hx hb dL_tells_252 (by decide) ?_
      have JN275 : ∀ (sn_74 : Nat) (sf_75 : Nat → Int32) (as_73 : Nat) (has_73 : GSb sn_74 sf_75 as_73 A s) (H : Heap) (locs : List Loc), (wj_L_tells_275 n_r_ r_ c_text f_text k_text n_d_ d_ Q) sn_74 sf_75 → va_P (dC, dI) vwCl [(a_r_, .inl (g 0, n_r_, .inl r_)), (a_text, .inr (1, [.ref v_text, .int 0, .int 0, .int k_text])), (v_text, .inl (g 2, c_text, .inl f_text)), (a_d_, .inl (g 0, n_d_, .inl d_))] H → va_D A [(a_r_, .inl (g 0, n_r_, .inl r_)), (a_text, .inr (1, [.ref v_text, .int 0, .int 0, .int k_text])), (v_text, .inl (g 2, c_text, .inl f_text)), (a_d_, .inl (g 0, n_d_, .inl d_))] → va_S A s.heap H locs → ∀ (ls : Array Slot), lv_has ls 3 [(0, .ref a_r_), (1, .ref a_text), (2, .ref a_d_)] → W p l e (headSpec wqL_tells ({ frames := 6, cells := 23, slots := 38016, locals := 171 })).room s m ([.ref a_r_, .ref a_text, .ref a_d_] : List Value).toArray below meth c H locs 0 0 QM (F0 m 275 ls [.ref as_73, .ref a_text]) := by
        intro sn_74 sf_75 as_73 has_73 H locs hw hP hD hS ls hl
        obtain ⟨hPs, hDs⟩ := seg_call (segs := [[(a_r_, .inl (g 0, n_r_, .inl r_))], [(a_text, .inr (1, [.ref v_text, .int 0, .int 0, .int k_text]))], [(v_text, .inl (g 2, c_text, .inl f_text))], [(a_d_, .inl (g 0, n_d_, .inl d_))]]) [[(a_r_, .inl (g 0, n_r_, .inl r_))], [(a_d_, .inl (g 0, n_d_, .inl d_))]] [[(a_text, .inr (1, [.ref v_text, .int 0, .int 0, .int k_text]))], [(v_text, .inl (g 2, c_text, .inl f_text))]] 4 [0, 3, 1, 2] rfl rfl (by decide) hP hD
        have hPc : va_P (dC, dI) vwCl [(a_text, .inr (1, [.ref v_text, .int 0, .int 0, .int k_text])), (v_text, .inl (g 2, c_text, .inl f_text))] H := P_r hPs
        have hDc : va_D A [(a_text, .inr (1, [.ref v_text, .int 0, .int 0, .int k_text])), (v_text, .inl (g 2, c_text, .inl f_text))] := D_r hDs
        have hFc : ∀ q, va_A [(a_text, .inr (1, [.ref v_text, .int 0, .int 0, .int k_text])), (v_text, .inl (g 2, c_text, .inl f_text))] H.size q → A q := A_all hDc hA hS.1
        refine va_callq (va_runV (As := [.ref as_73]) (rest := []) ⟨hx, hb, hml, hown, hts⟩ (c_J4_append_15ec4 l dC dI g (a_this_ := a_text) (v_this_ := v_text) (c_this_ := c_text) (f_this_ := f_text) (k_this_ := k_text) (a_s_ := as_73) (s__n := sn_74) (s__f := sf_75) (hw := hw) (sz := H.size)) (cwV 1 hts (gqV aw_7_20 aw_6_139 aw_6_140 aw_1_26 aw_6_141) rfl rfl rfl (by decide +kernel) ⟨Nat.le_of_ble_eq_true rfl, Nat.le_of_ble_eq_true rfl⟩) ⟨PX_blind (GSb_go sn_74 sf_75 as_73), va_recv hK hP (ci := 1) (q0 := 1) rfl rfl, PX_call (GSb_go sn_74 sf_75 as_73) hK hG hS hPc hDc hFc has_73⟩ rfl rfl hl.1 rfl (lv_room (Nat.le_of_ble_eq_true rfl)) dL_tells_275 ⟨by rw [hrc]; omega, by rw [hrs]; omega⟩) hS (fun q _ h => hFc q h) hFc (fun r_77 u_77 t_77 H_77 L_77 ht_77 hvm_77 hw_77 hB_77 hz_77 hk_77 hS => ?_)
        obtain ⟨v_78, c_79, f_80, k_81, u_77⟩ := u_77
        obtain ⟨rfl, hw⟩ := hw_77
        rw [ht_77] at hB_77
        obtain ⟨hP1, hD1⟩ := hB_77
        obtain ⟨hP, hD⟩ := join_r hPs hDs hk_77 hFc hP1 hD1
        obtain ⟨hP, hD⟩ := seg_join [[(a_r_, .inl (g 0, n_r_, .inl r_))], [(a_d_, .inl (g 0, n_d_, .inl d_))]] [[(a_text, .inr (1, [.ref v_78, .int 0, .int 0, .int k_81]))], [(v_78, .inl (g 2, c_79, .inl f_80))]] [[(a_r_, .inl (g 0, n_r_, .inl r_))], [(a_text, .inr (1, [.ref v_78, .int 0, .int 0, .int k_81]))], [(v_78, .inl (g 2, c_79, .inl f_80))], [(a_d_, .inl (g 0, n_d_, .inl d_))]] 4 [0, 2, 3, 1] rfl rfl (by decide) hP hD
        have hP : va_P (dC, dI) vwCl [(a_r_, .inl (g 0, n_r_, .inl r_)), (a_text, .inr (1, [.ref v_78, .int 0, .int 0, .int k_81])), (v_78, .inl (g 2, c_79, .inl f_80)), (a_d_, .inl (g 0, n_d_, .inl d_))] H_77 := hP
        have hD : va_D A [(a_r_, .inl (g 0, n_r_, .inl r_)), (a_text, .inr (1, [.ref v_78, .int 0, .int 0, .int k_81])), (v_78, .inl (g 2, c_79, .inl f_80)), (a_d_, .inl (g 0, n_d_, .inl d_))] := hD
        refine W.widen (k := 1) (n := 2000) (by omega) (by omega) ?_
        refine lv_aload_n hx hb dL_tells_278 rfl (lv_at hl 2 rfl) ?_
        refine lv_iconst (v := 1) hx hb dL_tells_279 (by decide) ?_
        refine va_iald hx hb hK hP 3 0 rfl rfl hw.1 dL_tells_280 ?_
        have hw := hw.2
        refine lv_topi (fun x_82 ex_82 => ?_)
        have hw := hw x_82 ex_82
        obtain ⟨hPs, hDs⟩ := seg_call (segs := [[(a_r_, .inl (g 0, n_r_, .inl r_))], [(a_text, .inr (1, [.ref v_78, .int 0, .int 0, .int k_81]))], [(v_78, .inl (g 2, c_79, .inl f_80))], [(a_d_, .inl (g 0, n_d_, .inl d_))]]) [[(a_r_, .inl (g 0, n_r_, .inl r_))], [(a_d_, .inl (g 0, n_d_, .inl d_))]] [[(a_text, .inr (1, [.ref v_78, .int 0, .int 0, .int k_81]))], [(v_78, .inl (g 2, c_79, .inl f_80))]] 4 [0, 3, 1, 2] rfl rfl (by decide) hP hD
        have hPc : va_P (dC, dI) vwCl [(a_text, .inr (1, [.ref v_78, .int 0, .int 0, .int k_81])), (v_78, .inl (g 2, c_79, .inl f_80))] H_77 := P_r hPs
        have hDc : va_D A [(a_text, .inr (1, [.ref v_78, .int 0, .int 0, .int k_81])), (v_78, .inl (g 2, c_79, .inl f_80))] := D_r hDs
        have hFc : ∀ q, va_A [(a_text, .inr (1, [.ref v_78, .int 0, .int 0, .int k_81])), (v_78, .inl (g 2, c_79, .inl f_80))] H_77.size q → A q := A_all hDc hA hS.1
        refine va_callq (va_runV (As := [.int x_82]) (rest := []) ⟨hx, hb, hml, hown, hts⟩ (c_J4_append_bf812 l dC dI g (a_this_ := a_text) (v_this_ := v_78) (c_this_ := c_79) (f_this_ := f_80) (k_this_ := k_81) (i_ := x_82) (hw := hw) (sz := H_77.size)) (cwV 1 hts (gqV aw_7_21 aw_7_22 aw_7_23 aw_1_26 aw_7_24) rfl rfl rfl (by decide +kernel) ⟨Nat.le_of_ble_eq_true rfl, Nat.le_of_ble_eq_true rfl⟩) ⟨PG_blind, va_recv hK hP (ci := 1) (q0 := 1) rfl rfl, PG_call hK hG hS hPc hDc hFc⟩ rfl rfl hl.1 rfl (lv_room (Nat.le_of_ble_eq_true rfl)) dL_tells_281 ⟨by rw [hrc]; omega, by rw [hrs]; omega⟩) hS (fun q _ h => hFc q h) hFc (fun r_84 u_84 t_84 H_84 L_84 ht_84 hvm_84 hw_84 hB_84 hz_84 hk_84 hS => ?_)
        obtain ⟨v_85, c_86, f_87, k_88, u_84⟩ := u_84
        obtain ⟨rfl, hw⟩ := hw_84
        rw [ht_84] at hB_84
        obtain ⟨hP1, hD1⟩ := hB_84
        obtain ⟨hP, hD⟩ := join_r hPs hDs hk_84 hFc hP1 hD1
        obtain ⟨hP, hD⟩ := seg_join [[(a_r_, .inl (g 0, n_r_, .inl r_))], [(a_d_, .inl (g 0, n_d_, .inl d_))]] [[(a_text, .inr (1, [.ref v_85, .int 0, .int 0, .int k_88]))], [(v_85, .inl (g 2, c_86, .inl f_87))]] [[(a_r_, .inl (g 0, n_r_, .inl r_))], [(a_text, .inr (1, [.ref v_85, .int 0, .int 0, .int k_88]))], [(v_85, .inl (g 2, c_86, .inl f_87))], [(a_d_, .inl (g 0, n_d_, .inl d_))]] 4 [0, 2, 3, 1] rfl rfl (by decide) hP hD
        have hP : va_P (dC, dI) vwCl [(a_r_, .inl (g 0, n_r_, .inl r_)), (a_text, .inr (1, [.ref v_85, .int 0, .int 0, .int k_88])), (v_85, .inl (g 2, c_86, .inl f_87)), (a_d_, .inl (g 0, n_d_, .inl d_))] H_84 := hP
        have hD : va_D A [(a_r_, .inl (g 0, n_r_, .inl r_)), (a_text, .inr (1, [.ref v_85, .int 0, .int 0, .int k_88])), (v_85, .inl (g 2, c_86, .inl f_87)), (a_d_, .inl (g 0, n_d_, .inl d_))] := hD
        refine W.widen (k := 2) (n := 4000) (by omega) (by omega) ?_
        obtain ⟨as_18, hR_18, hT_18⟩ := GSb_of (sx_18 hG)
        refine va_ldcS hx hb hown hR_18 dL_tells_284 ?_
        obtain ⟨hPs, hDs⟩ := seg_call (segs := [[(a_r_, .inl (g 0, n_r_, .inl r_))], [(a_text, .inr (1, [.ref v_85, .int 0, .int 0, .int k_88]))], [(v_85, .inl (g 2, c_86, .inl f_87))], [(a_d_, .inl (g 0, n_d_, .inl d_))]]) [[(a_r_, .inl (g 0, n_r_, .inl r_))], [(a_d_, .inl (g 0, n_d_, .inl d_))]] [[(a_text, .inr (1, [.ref v_85, .int 0, .int 0, .int k_88]))], [(v_85, .inl (g 2, c_86, .inl f_87))]] 4 [0, 3, 1, 2] rfl rfl (by decide) hP hD
        have hPc : va_P (dC, dI) vwCl [(a_text, .inr (1, [.ref v_85, .int 0, .int 0, .int k_88])), (v_85, .inl (g 2, c_86, .inl f_87))] H_84 := P_r hPs
        have hDc : va_D A [(a_text, .inr (1, [.ref v_85, .int 0, .int 0, .int k_88])), (v_85, .inl (g 2, c_86, .inl f_87))] := D_r hDs
        have hFc : ∀ q, va_A [(a_text, .inr (1, [.ref v_85, .int 0, .int 0, .int k_88])), (v_85, .inl (g 2, c_86, .inl f_87))] H_84.size q → A q := A_all hDc hA hS.1
        refine va_callq (va_runV (As := [.ref as_18]) (rest := []) ⟨hx, hb, hml, hown, hts⟩ (c_J4_append_15ec4 l dC dI g (a_this_ := a_text) (v_this_ := v_85) (c_this_ := c_86) (f_this_ := f_87) (k_this_ := k_88) (a_s_ := as_18) (s__n := (tn 18)) (s__f := (tb 18)) (hw := hw) (sz := H_84.size)) (cwV 1 hts (gqV aw_7_20 aw_6_139 aw_6_140 aw_1_26 aw_6_141) rfl rfl rfl (by decide +kernel) ⟨Nat.le_of_ble_eq_true rfl, Nat.le_of_ble_eq_true rfl⟩) ⟨PX_blind (GSb_go (tn 18) (tb 18) as_18), va_recv hK hP (ci := 1) (q0 := 1) rfl rfl, PX_call (GSb_go (tn 18) (tb 18) as_18) hK hG hS hPc hDc hFc hT_18⟩ rfl rfl hl.1 rfl (lv_room (Nat.le_of_ble_eq_true rfl)) dL_tells_286 ⟨by rw [hrc]; omega, by rw [hrs]; omega⟩) hS (fun q _ h => hFc q h) hFc (fun r_90 u_90 t_90 H_90 L_90 ht_90 hvm_90 hw_90 hB_90 hz_90 hk_90 hS => ?_)
        obtain ⟨v_91, c_92, f_93, k_94, u_90⟩ := u_90
        obtain ⟨rfl, hw⟩ := hw_90
        rw [ht_90] at hB_90
        obtain ⟨hP1, hD1⟩ := hB_90
        obtain ⟨hP, hD⟩ := join_r hPs hDs hk_90 hFc hP1 hD1
        obtain ⟨hP, hD⟩ := seg_join [[(a_r_, .inl (g 0, n_r_, .inl r_))], [(a_d_, .inl (g 0, n_d_, .inl d_))]] [[(a_text, .inr (1, [.ref v_91, .int 0, .int 0, .int k_94]))], [(v_91, .inl (g 2, c_92, .inl f_93))]] [[(a_r_, .inl (g 0, n_r_, .inl r_))], [(a_text, .inr (1, [.ref v_91, .int 0, .int 0, .int k_94]))], [(v_91, .inl (g 2, c_92, .inl f_93))], [(a_d_, .inl (g 0, n_d_, .inl d_))]] 4 [0, 2, 3, 1] rfl rfl (by decide) hP hD
        have hP : va_P (dC, dI) vwCl [(a_r_, .inl (g 0, n_r_, .inl r_)), (a_text, .inr (1, [.ref v_91, .int 0, .int 0, .int k_94])), (v_91, .inl (g 2, c_92, .inl f_93)), (a_d_, .inl (g 0, n_d_, .inl d_))] H_90 := hP
        have hD : va_D A [(a_r_, .inl (g 0, n_r_, .inl r_)), (a_text, .inr (1, [.ref v_91, .int 0, .int 0, .int k_94])), (v_91, .inl (g 2, c_92, .inl f_93)), (a_d_, .inl (g 0, n_d_, .inl d_))] := hD
        refine W.widen (k := 3) (n := 6000) (by omega) (by omega) ?_
        refine lv_aload_n hx hb dL_tells_289 rfl (lv_at hl 2 rfl) ?_
        refine lv_iconst (v := 2) hx hb dL_tells_290 (by decide) ?_
        refine va_iald hx hb hK hP 3 0 rfl rfl hw.1 dL_tells_291 ?_
        have hw := hw.2
        refine lv_topi (fun x_95 ex_95 => ?_)
        have hw := hw x_95 ex_95
        obtain ⟨hPs, hDs⟩ := seg_call (segs := [[(a_r_, .inl (g 0, n_r_, .inl r_))], [(a_text, .inr (1, [.ref v_91, .int 0, .int 0, .int k_94]))], [(v_91, .inl (g 2, c_92, .inl f_93))], [(a_d_, .inl (g 0, n_d_, .inl d_))]]) [[(a_r_, .inl (g 0, n_r_, .inl r_))], [(a_d_, .inl (g 0, n_d_, .inl d_))]] [[(a_text, .inr (1, [.ref v_91, .int 0, .int 0, .int k_94]))], [(v_91, .inl (g 2, c_92, .inl f_93))]] 4 [0, 3, 1, 2] rfl rfl (by decide) hP hD
        have hPc : va_P (dC, dI) vwCl [(a_text, .inr (1, [.ref v_91, .int 0, .int 0, .int k_94])), (v_91, .inl (g 2, c_92, .inl f_93))] H_90 := P_r hPs
        have hDc : va_D A [(a_text, .inr (1, [.ref v_91, .int 0, .int 0, .int k_94])), (v_91, .inl (g 2, c_92, .inl f_93))] := D_r hDs
        have hFc : ∀ q, va_A [(a_text, .inr (1, [.ref v_91, .int 0, .int 0, .int k_94])), (v_91, .inl (g 2, c_92, .inl f_93))] H_90.size q → A q := A_all hDc hA hS.1
        refine va_callq (va_runV (As := [.int x_95]) (rest := []) ⟨hx, hb, hml, hown, hts⟩ (c_J4_append_bf812 l dC dI g (a_this_ := a_text) (v_this_ := v_91) (c_this_ := c_92) (f_this_ := f_93) (k_this_ := k_94) (i_ := x_95) (hw := hw) (sz := H_90.size)) (cwV 1 hts (gqV aw_7_21 aw_7_22 aw_7_23 aw_1_26 aw_7_24) rfl rfl rfl (by decide +kernel) ⟨Nat.le_of_ble_eq_true rfl, Nat.le_of_ble_eq_true rfl⟩) ⟨PG_blind, va_recv hK hP (ci := 1) (q0 := 1) rfl rfl, PG_call hK hG hS hPc hDc hFc⟩ rfl rfl hl.1 rfl (lv_room (Nat.le_of_ble_eq_true rfl)) dL_tells_292 ⟨by rw [hrc]; omega, by rw [hrs]; omega⟩) hS (fun q _ h => hFc q h) hFc (fun r_97 u_97 t_97 H_97 L_97 ht_97 hvm_97 hw_97 hB_97 hz_97 hk_97 hS => ?_)
        obtain ⟨v_98, c_99, f_100, k_101, u_97⟩ := u_97
        obtain ⟨rfl, hw⟩ := hw_97
        rw [ht_97] at hB_97
        obtain ⟨hP1, hD1⟩ := hB_97
        obtain ⟨hP, hD⟩ := join_r hPs hDs hk_97 hFc hP1 hD1
        obtain ⟨hP, hD⟩ := seg_join [[(a_r_, .inl (g 0, n_r_, .inl r_))], [(a_d_, .inl (g 0, n_d_, .inl d_))]] [[(a_text, .inr (1, [.ref v_98, .int 0, .int 0, .int k_101]))], [(v_98, .inl (g 2, c_99, .inl f_100))]] [[(a_r_, .inl (g 0, n_r_, .inl r_))], [(a_text, .inr (1, [.ref v_98, .int 0, .int 0, .int k_101]))], [(v_98, .inl (g 2, c_99, .inl f_100))], [(a_d_, .inl (g 0, n_d_, .inl d_))]] 4 [0, 2, 3, 1] rfl rfl (by decide) hP hD
        have hP : va_P (dC, dI) vwCl [(a_r_, .inl (g 0, n_r_, .inl r_)), (a_text, .inr (1, [.ref v_98, .int 0, .int 0, .int k_101])), (v_98, .inl (g 2, c_99, .inl f_100)), (a_d_, .inl (g 0, n_d_, .inl d_))] H_97 := hP
        have hD : va_D A [(a_r_, .inl (g 0, n_r_, .inl r_)), (a_text, .inr (1, [.ref v_98, .int 0, .int 0, .int k_101])), (v_98, .inl (g 2, c_99, .inl f_100)), (a_d_, .inl (g 0, n_d_, .inl d_))] := hD
        refine W.widen (k := 4) (n := 8000) (by omega) (by omega) ?_
        obtain ⟨as_22, hR_22, hT_22⟩ := GSb_of (sx_22 hG)
        refine va_ldcS hx hb hown hR_22 dL_tells_295 ?_
        obtain ⟨hPs, hDs⟩ := seg_call (segs := [[(a_r_, .inl (g 0, n_r_, .inl r_))], [(a_text, .inr (1, [.ref v_98, .int 0, .int 0, .int k_101]))], [(v_98, .inl (g 2, c_99, .inl f_100))], [(a_d_, .inl (g 0, n_d_, .inl d_))]]) [[(a_r_, .inl (g 0, n_r_, .inl r_))], [(a_d_, .inl (g 0, n_d_, .inl d_))]] [[(a_text, .inr (1, [.ref v_98, .int 0, .int 0, .int k_101]))], [(v_98, .inl (g 2, c_99, .inl f_100))]] 4 [0, 3, 1, 2] rfl rfl (by decide) hP hD
        have hPc : va_P (dC, dI) vwCl [(a_text, .inr (1, [.ref v_98, .int 0, .int 0, .int k_101])), (v_98, .inl (g 2, c_99, .inl f_100))] H_97 := P_r hPs
        have hDc : va_D A [(a_text, .inr (1, [.ref v_98, .int 0, .int 0, .int k_101])), (v_98, .inl (g 2, c_99, .inl f_100))] := D_r hDs
        have hFc : ∀ q, va_A [(a_text, .inr (1, [.ref v_98, .int 0, .int 0, .int k_101])), (v_98, .inl (g 2, c_99, .inl f_100))] H_97.size q → A q := A_all hDc hA hS.1
        refine va_callq (va_runV (As := [.ref as_22]) (rest := []) ⟨hx, hb, hml, hown, hts⟩ (c_J4_append_15ec4 l dC dI g (a_this_ := a_text) (v_this_ := v_98) (c_this_ := c_99) (f_this_ := f_100) (k_this_ := k_101) (a_s_ := as_22) (s__n := (tn 21)) (s__f := (tb 21)) (hw := hw) (sz := H_97.size)) (cwV 1 hts (gqV aw_7_20 aw_6_139 aw_6_140 aw_1_26 aw_6_141) rfl rfl rfl (by decide +kernel) ⟨Nat.le_of_ble_eq_true rfl, Nat.le_of_ble_eq_true rfl⟩) ⟨PX_blind (GSb_go (tn 21) (tb 21) as_22), va_recv hK hP (ci := 1) (q0 := 1) rfl rfl, PX_call (GSb_go (tn 21) (tb 21) as_22) hK hG hS hPc hDc hFc hT_22⟩ rfl rfl hl.1 rfl (lv_room (Nat.le_of_ble_eq_true rfl)) dL_tells_297 ⟨by rw [hrc]; omega, by rw [hrs]; omega⟩) hS (fun q _ h => hFc q h) hFc (fun r_103 u_103 t_103 H_103 L_103 ht_103 hvm_103 hw_103 hB_103 hz_103 hk_103 hS => ?_)
        obtain ⟨v_104, c_105, f_106, k_107, u_103⟩ := u_103
        obtain ⟨rfl, hw⟩ := hw_103
        rw [ht_103] at hB_103
        obtain ⟨hP1, hD1⟩ := hB_103
        obtain ⟨hP, hD⟩ := join_r hPs hDs hk_103 hFc hP1 hD1
        obtain ⟨hP, hD⟩ := seg_join [[(a_r_, .inl (g 0, n_r_, .inl r_))], [(a_d_, .inl (g 0, n_d_, .inl d_))]] [[(a_text, .inr (1, [.ref v_104, .int 0, .int 0, .int k_107]))], [(v_104, .inl (g 2, c_105, .inl f_106))]] [[(a_r_, .inl (g 0, n_r_, .inl r_))], [(a_text, .inr (1, [.ref v_104, .int 0, .int 0, .int k_107]))], [(v_104, .inl (g 2, c_105, .inl f_106))], [(a_d_, .inl (g 0, n_d_, .inl d_))]] 4 [0, 2, 3, 1] rfl rfl (by decide) hP hD
        have hP : va_P (dC, dI) vwCl [(a_r_, .inl (g 0, n_r_, .inl r_)), (a_text, .inr (1, [.ref v_104, .int 0, .int 0, .int k_107])), (v_104, .inl (g 2, c_105, .inl f_106)), (a_d_, .inl (g 0, n_d_, .inl d_))] H_103 := hP
        have hD : va_D A [(a_r_, .inl (g 0, n_r_, .inl r_)), (a_text, .inr (1, [.ref v_104, .int 0, .int 0, .int k_107])), (v_104, .inl (g 2, c_105, .inl f_106)), (a_d_, .inl (g 0, n_d_, .inl d_))] := hD
        refine W.widen (k := 5) (n := 10000) (by omega) (by omega) ?_
        refine lv_aload_n hx hb dL_tells_300 rfl (lv_at hl 2 rfl) ?_
        refine lv_iconst (v := 3) hx hb dL_tells_301 (by decide) ?_
        refine va_iald hx hb hK hP 3 0 rfl rfl hw.1 dL_tells_302 ?_
        have hw := hw.2
        refine lv_topi (fun x_108 ex_108 => ?_)
        have hw := hw x_108 ex_108
        obtain ⟨hPs, hDs⟩ := seg_call (segs := [[(a_r_, .inl (g 0, n_r_, .inl r_))], [(a_text, .inr (1, [.ref v_104, .int 0, .int 0, .int k_107]))], [(v_104, .inl (g 2, c_105, .inl f_106))], [(a_d_, .inl (g 0, n_d_, .inl d_))]]) [[(a_r_, .inl (g 0, n_r_, .inl r_))], [(a_d_, .inl (g 0, n_d_, .inl d_))]] [[(a_text, .inr (1, [.ref v_104, .int 0, .int 0, .int k_107]))], [(v_104, .inl (g 2, c_105, .inl f_106))]] 4 [0, 3, 1, 2] rfl rfl (by decide) hP hD
        have hPc : va_P (dC, dI) vwCl [(a_text, .inr (1, [.ref v_104, .int 0, .int 0, .int k_107])), (v_104, .inl (g 2, c_105, .inl f_106))] H_103 := P_r hPs
        have hDc : va_D A [(a_text, .inr (1, [.ref v_104, .int 0, .int 0, .int k_107])), (v_104, .inl (g 2, c_105, .inl f_106))] := D_r hDs
        have hFc : ∀ q, va_A [(a_text, .inr (1, [.ref v_104, .int 0, .int 0, .int k_107])), (v_104, .inl (g 2, c_105, .inl f_106))] H_103.size q → A q := A_all hDc hA hS.1
        refine va_callq (va_runV (As := [.int x_108]) (rest := []) ⟨hx, hb, hml, hown, hts⟩ (c_J4_append_bf812 l dC dI g (a_this_ := a_text) (v_this_ := v_104) (c_this_ := c_105) (f_this_ := f_106) (k_this_ := k_107) (i_ := x_108) (hw := hw) (sz := H_103.size)) (cwV 1 hts (gqV aw_7_21 aw_7_22 aw_7_23 aw_1_26 aw_7_24) rfl rfl rfl (by decide +kernel) ⟨Nat.le_of_ble_eq_true rfl, Nat.le_of_ble_eq_true rfl⟩) ⟨PG_blind, va_recv hK hP (ci := 1) (q0 := 1) rfl rfl, PG_call hK hG hS hPc hDc hFc⟩ rfl rfl hl.1 rfl (lv_room (Nat.le_of_ble_eq_true rfl)) dL_tells_303 ⟨by rw [hrc]; omega, by rw [hrs]; omega⟩) hS (fun q _ h => hFc q h) hFc (fun r_110 u_110 t_110 H_110 L_110 ht_110 hvm_110 hw_110 hB_110 hz_110 hk_110 hS => ?_)
        obtain ⟨v_111, c_112, f_113, k_114, u_110⟩ := u_110
        obtain ⟨rfl, hw⟩ := hw_110
        rw [ht_110] at hB_110
        obtain ⟨hP1, hD1⟩ := hB_110
        obtain ⟨hP, hD⟩ := join_r hPs hDs hk_110 hFc hP1 hD1
        obtain ⟨hP, hD⟩ := seg_join [[(a_r_, .inl (g 0, n_r_, .inl r_))], [(a_d_, .inl (g 0, n_d_, .inl d_))]] [[(a_text, .inr (1, [.ref v_111, .int 0, .int 0, .int k_114]))], [(v_111, .inl (g 2, c_112, .inl f_113))]] [[(a_r_, .inl (g 0, n_r_, .inl r_))], [(a_text, .inr (1, [.ref v_111, .int 0, .int 0, .int k_114]))], [(v_111, .inl (g 2, c_112, .inl f_113))], [(a_d_, .inl (g 0, n_d_, .inl d_))]] 4 [0, 2, 3, 1] rfl rfl (by decide) hP hD
        have hP : va_P (dC, dI) vwCl [(a_r_, .inl (g 0, n_r_, .inl r_)), (a_text, .inr (1, [.ref v_111, .int 0, .int 0, .int k_114])), (v_111, .inl (g 2, c_112, .inl f_113)), (a_d_, .inl (g 0, n_d_, .inl d_))] H_110 := hP
        have hD : va_D A [(a_r_, .inl (g 0, n_r_, .inl r_)), (a_text, .inr (1, [.ref v_111, .int 0, .int 0, .int k_114])), (v_111, .inl (g 2, c_112, .inl f_113)), (a_d_, .inl (g 0, n_d_, .inl d_))] := hD
        refine W.widen (k := 6) (n := 12000) (by omega) (by omega) ?_
        refine lv_pop hx hb dL_tells_306 rfl ?_
        refine lv_goto (tgt := 401) hx hb dL_tells_307 (by decide) ?_
        refine W.widen (k := 22) (n := 36016) (by omega) (by omega) ?_
        exact JN401 c_112 f_113 k_114 r_ v_111 _ _ hw hP hD hS _ (lv_sub hl [0, 1] rfl)
      refine lv_icmp_ne (tgt := 261) hx hb dL_tells_253 (by decide) (fun c_115 => ?_) (fun c_115 => ?_)
      · have hw := hw.2 c_115
        refine lv_aload_n hx hb dL_tells_261 rfl (lv_at hl 2 rfl) ?_
        refine lv_iconst (v := 0) hx hb dL_tells_262 (by decide) ?_
        refine va_iald hx hb hK hP 3 0 rfl rfl hw.1 dL_tells_263 ?_
        have hw := hw.2
        refine lv_topi (fun x_116 ex_116 => ?_)
        have hw := hw x_116 ex_116
        refine lv_iconst (v := 2) hx hb dL_tells_264 (by decide) ?_
        refine lv_icmp_ne (tgt := 273) hx hb dL_tells_265 (by decide) (fun c_117 => ?_) (fun c_117 => ?_)
        · have hw := hw.2 c_117
          obtain ⟨as_34, hR_34, hT_34⟩ := GSb_of (sx_34 hG)
          refine va_ldcS hx hb hown hR_34 dL_tells_273 ?_
          refine W.widen (k := 0) (n := 0) (by omega) (by omega) ?_
          exact JN275 (tn 33) (tb 33) as_34 hT_34 _ _ hw hP hD hS _ (lv_sub hl [0, 1, 2] rfl)
        · have hw := hw.1 c_117
          obtain ⟨as_33, hR_33, hT_33⟩ := GSb_of (sx_33 hG)
          refine va_ldcS hx hb hown hR_33 dL_tells_268 ?_
          refine lv_goto (tgt := 275) hx hb dL_tells_270 (by decide) ?_
          refine W.widen (k := 0) (n := 0) (by omega) (by omega) ?_
          exact JN275 (tn 32) (tb 32) as_33 hT_33 _ _ hw hP hD hS _ (lv_sub hl [0, 1, 2] rfl)
      · have hw := hw.1 c_115
        obtain ⟨as_32, hR_32, hT_32⟩ := GSb_of (sx_32 hG)
        refine va_ldcS hx hb hown hR_32 dL_tells_256 ?_
        refine lv_goto (tgt := 275) hx hb dL_tells_258 (by decide) ?_
        refine W.widen (k := 0) (n := 0) (by omega) (by omega) ?_
        exact JN275 (tn 31) (tb 31) as_32 hT_32 _ _ hw hP hD hS _ (lv_sub hl [0, 1, 2] rfl)
  · have hw := hw.1 c_19
    refine lv_aload_n hx hb dL_tells_6 rfl (lv_at hl 1 rfl) ?_
    obtain ⟨as_20, hR_20, hT_20⟩ := GSb_of (sx_20 hG)
    refine va_ldcS hx hb hown hR_20 dL_tells_7 ?_
    obtain ⟨hPs, hDs⟩ := seg_call (segs := [[(a_r_, .inl (g 0, n_r_, .inl r_))], [(a_text, .inr (1, [.ref v_text, .int 0, .int 0, .int k_text]))], [(v_text, .inl (g 2, c_text, .inl f_text))], [(a_d_, .inl (g 0, n_d_, .inl d_))]]) [[(a_r_, .inl (g 0, n_r_, .inl r_))], [(a_d_, .inl (g 0, n_d_, .inl d_))]] [[(a_text, .inr (1, [.ref v_text, .int 0, .int 0, .int k_text]))], [(v_text, .inl (g 2, c_text, .inl f_text))]] 4 [0, 3, 1, 2] rfl rfl (by decide) hP hD
    have hPc : va_P (dC, dI) vwCl [(a_text, .inr (1, [.ref v_text, .int 0, .int 0, .int k_text])), (v_text, .inl (g 2, c_text, .inl f_text))] s.heap := P_r hPs
    have hDc : va_D A [(a_text, .inr (1, [.ref v_text, .int 0, .int 0, .int k_text])), (v_text, .inl (g 2, c_text, .inl f_text))] := D_r hDs
    have hFc : ∀ q, va_A [(a_text, .inr (1, [.ref v_text, .int 0, .int 0, .int k_text])), (v_text, .inl (g 2, c_text, .inl f_text))] s.heap.size q → A q := A_all hDc hA hS.1
    refine va_callq (va_runV (As := [.ref as_20]) (rest := []) ⟨hx, hb, hml, hown, hts⟩ (c_J4_append_15ec4 l dC dI g (a_this_ := a_text) (v_this_ := v_text) (c_this_ := c_text) (f_this_ := f_text) (k_this_ := k_text) (a_s_ := as_20) (s__n := (tn 20)) (s__f := (tb 20)) (hw := hw) (sz := s.heap.size)) (cwV 1 hts (gqV aw_7_20 aw_6_139 aw_6_140 aw_1_26 aw_6_141) rfl rfl rfl (by decide +kernel) ⟨Nat.le_of_ble_eq_true rfl, Nat.le_of_ble_eq_true rfl⟩) ⟨PX_blind (GSb_go (tn 20) (tb 20) as_20), va_recv hK hP (ci := 1) (q0 := 1) rfl rfl, PX_call (GSb_go (tn 20) (tb 20) as_20) hK hG hS hPc hDc hFc hT_20⟩ rfl rfl hl.1 rfl (lv_room (Nat.le_of_ble_eq_true rfl)) dL_tells_9 ⟨by rw [hrc]; omega, by rw [hrs]; omega⟩) hS (fun q _ h => hFc q h) hFc (fun r_119 u_119 t_119 H_119 L_119 ht_119 hvm_119 hw_119 hB_119 hz_119 hk_119 hS => ?_)
    obtain ⟨v_120, c_121, f_122, k_123, u_119⟩ := u_119
    obtain ⟨rfl, hw⟩ := hw_119
    rw [ht_119] at hB_119
    obtain ⟨hP1, hD1⟩ := hB_119
    obtain ⟨hP, hD⟩ := join_r hPs hDs hk_119 hFc hP1 hD1
    obtain ⟨hP, hD⟩ := seg_join [[(a_r_, .inl (g 0, n_r_, .inl r_))], [(a_d_, .inl (g 0, n_d_, .inl d_))]] [[(a_text, .inr (1, [.ref v_120, .int 0, .int 0, .int k_123]))], [(v_120, .inl (g 2, c_121, .inl f_122))]] [[(a_r_, .inl (g 0, n_r_, .inl r_))], [(a_text, .inr (1, [.ref v_120, .int 0, .int 0, .int k_123]))], [(v_120, .inl (g 2, c_121, .inl f_122))], [(a_d_, .inl (g 0, n_d_, .inl d_))]] 4 [0, 2, 3, 1] rfl rfl (by decide) hP hD
    have hP : va_P (dC, dI) vwCl [(a_r_, .inl (g 0, n_r_, .inl r_)), (a_text, .inr (1, [.ref v_120, .int 0, .int 0, .int k_123])), (v_120, .inl (g 2, c_121, .inl f_122)), (a_d_, .inl (g 0, n_d_, .inl d_))] H_119 := hP
    have hD : va_D A [(a_r_, .inl (g 0, n_r_, .inl r_)), (a_text, .inr (1, [.ref v_120, .int 0, .int 0, .int k_123])), (v_120, .inl (g 2, c_121, .inl f_122)), (a_d_, .inl (g 0, n_d_, .inl d_))] := hD
    refine W.widen (k := 1) (n := 2000) (by omega) (by omega) ?_
    refine lv_aload_n hx hb dL_tells_12 rfl (lv_at hl 2 rfl) ?_
    refine lv_iconst (v := 1) hx hb dL_tells_13 (by decide) ?_
    refine va_iald hx hb hK hP 3 0 rfl rfl hw.1 dL_tells_14 ?_
    have hw := hw.2
    refine lv_topi (fun x_124 ex_124 => ?_)
    have hw := hw x_124 ex_124
    obtain ⟨hPs, hDs⟩ := seg_call (segs := [[(a_r_, .inl (g 0, n_r_, .inl r_))], [(a_text, .inr (1, [.ref v_120, .int 0, .int 0, .int k_123]))], [(v_120, .inl (g 2, c_121, .inl f_122))], [(a_d_, .inl (g 0, n_d_, .inl d_))]]) [[(a_r_, .inl (g 0, n_r_, .inl r_))], [(a_d_, .inl (g 0, n_d_, .inl d_))]] [[(a_text, .inr (1, [.ref v_120, .int 0, .int 0, .int k_123]))], [(v_120, .inl (g 2, c_121, .inl f_122))]] 4 [0, 3, 1, 2] rfl rfl (by decide) hP hD
    have hPc : va_P (dC, dI) vwCl [(a_text, .inr (1, [.ref v_120, .int 0, .int 0, .int k_123])), (v_120, .inl (g 2, c_121, .inl f_122))] H_119 := P_r hPs
    have hDc : va_D A [(a_text, .inr (1, [.ref v_120, .int 0, .int 0, .int k_123])), (v_120, .inl (g 2, c_121, .inl f_122))] := D_r hDs
    have hFc : ∀ q, va_A [(a_text, .inr (1, [.ref v_120, .int 0, .int 0, .int k_123])), (v_120, .inl (g 2, c_121, .inl f_122))] H_119.size q → A q := A_all hDc hA hS.1
    refine va_callq (va_runV (As := [.int x_124]) (rest := []) ⟨hx, hb, hml, hown, hts⟩ (c_J4_append_bf812 l dC dI g (a_this_ := a_text) (v_this_ := v_120) (c_this_ := c_121) (f_this_ := f_122) (k_this_ := k_123) (i_ := x_124) (hw := hw) (sz := H_119.size)) (cwV 1 hts (gqV aw_7_21 aw_7_22 aw_7_23 aw_1_26 aw_7_24) rfl rfl rfl (by decide +kernel) ⟨Nat.le_of_ble_eq_true rfl, Nat.le_of_ble_eq_true rfl⟩) ⟨PG_blind, va_recv hK hP (ci := 1) (q0 := 1) rfl rfl, PG_call hK hG hS hPc hDc hFc⟩ rfl rfl hl.1 rfl (lv_room (Nat.le_of_ble_eq_true rfl)) dL_tells_15 ⟨by rw [hrc]; omega, by rw [hrs]; omega⟩) hS (fun q _ h => hFc q h) hFc (fun r_126 u_126 t_126 H_126 L_126 ht_126 hvm_126 hw_126 hB_126 hz_126 hk_126 hS => ?_)
    obtain ⟨v_127, c_128, f_129, k_130, u_126⟩ := u_126
    obtain ⟨rfl, hw⟩ := hw_126
    rw [ht_126] at hB_126
    obtain ⟨hP1, hD1⟩ := hB_126
    obtain ⟨hP, hD⟩ := join_r hPs hDs hk_126 hFc hP1 hD1
    obtain ⟨hP, hD⟩ := seg_join [[(a_r_, .inl (g 0, n_r_, .inl r_))], [(a_d_, .inl (g 0, n_d_, .inl d_))]] [[(a_text, .inr (1, [.ref v_127, .int 0, .int 0, .int k_130]))], [(v_127, .inl (g 2, c_128, .inl f_129))]] [[(a_r_, .inl (g 0, n_r_, .inl r_))], [(a_text, .inr (1, [.ref v_127, .int 0, .int 0, .int k_130]))], [(v_127, .inl (g 2, c_128, .inl f_129))], [(a_d_, .inl (g 0, n_d_, .inl d_))]] 4 [0, 2, 3, 1] rfl rfl (by decide) hP hD
    have hP : va_P (dC, dI) vwCl [(a_r_, .inl (g 0, n_r_, .inl r_)), (a_text, .inr (1, [.ref v_127, .int 0, .int 0, .int k_130])), (v_127, .inl (g 2, c_128, .inl f_129)), (a_d_, .inl (g 0, n_d_, .inl d_))] H_126 := hP
    have hD : va_D A [(a_r_, .inl (g 0, n_r_, .inl r_)), (a_text, .inr (1, [.ref v_127, .int 0, .int 0, .int k_130])), (v_127, .inl (g 2, c_128, .inl f_129)), (a_d_, .inl (g 0, n_d_, .inl d_))] := hD
    refine W.widen (k := 2) (n := 4000) (by omega) (by omega) ?_
    refine lv_aload_n hx hb dL_tells_18 rfl (lv_at hl 0 rfl) ?_
    refine lv_iconst (v := 3) hx hb dL_tells_19 (by decide) ?_
    obtain ⟨hPs, hDs⟩ := seg_call (segs := [[(a_r_, .inl (g 0, n_r_, .inl r_))], [(a_text, .inr (1, [.ref v_127, .int 0, .int 0, .int k_130]))], [(v_127, .inl (g 2, c_128, .inl f_129))], [(a_d_, .inl (g 0, n_d_, .inl d_))]]) [[(a_text, .inr (1, [.ref v_127, .int 0, .int 0, .int k_130]))], [(v_127, .inl (g 2, c_128, .inl f_129))], [(a_d_, .inl (g 0, n_d_, .inl d_))]] [[(a_r_, .inl (g 0, n_r_, .inl r_))]] 4 [1, 2, 3, 0] rfl rfl (by decide) hP hD
    have hPc : va_P (dC, dI) vwCl [(a_r_, .inl (g 0, n_r_, .inl r_))] H_126 := P_r hPs
    have hDc : va_D A [(a_r_, .inl (g 0, n_r_, .inl r_))] := D_r hDs
    have hFc : ∀ q, va_A [(a_r_, .inl (g 0, n_r_, .inl r_))] H_126.size q → A q := A_all hDc hA hS.1
    refine va_calli (va_runS (As := [.ref a_r_, .int 3]) (rest := [.ref a_text]) ⟨hx, hb, hml, hown, hts⟩ (c_L_draw l hlf dC dI g (a_r_ := a_r_) (n_r_ := n_r_) (r_ := r_) (many := 3) (hw := hw) (sz := H_126.size)) (va_cwS 2 hts (gqS aw_2_215 aw_2_216 aw_1_0 aw_2_217) rfl rfl rfl (by decide +kernel) ⟨Nat.le_of_ble_eq_true rfl, Nat.le_of_ble_eq_true rfl⟩) ⟨PG_blind, PG_call hK hG hS hPc hDc hFc⟩ rfl rfl hl.1 rfl (lv_room (Nat.le_of_ble_eq_true rfl)) dL_tells_20 ⟨by rw [hrc]; omega, by rw [hrs]; omega⟩) hS (fun q _ h => hFc q h) hFc (fun r_131 u_131 t_131 H_131 L_131 ht_131 hvm_131 hw_131 hB_131 hz_131 hk_131 hS => ?_)
    obtain ⟨r__132, u_131⟩ := u_131
    have hw := hw_131
    rw [ht_131] at hB_131
    obtain ⟨hP1, hD1⟩ := hB_131
    obtain ⟨hP, hD⟩ := join_r hPs hDs hk_131 hFc hP1 hD1
    obtain ⟨hP, hD⟩ := seg_join [[(a_text, .inr (1, [.ref v_127, .int 0, .int 0, .int k_130]))], [(v_127, .inl (g 2, c_128, .inl f_129))], [(a_d_, .inl (g 0, n_d_, .inl d_))]] [[(a_r_, .inl (g 0, n_r_, .inl r__132))]] [[(a_r_, .inl (g 0, n_r_, .inl r__132))], [(a_text, .inr (1, [.ref v_127, .int 0, .int 0, .int k_130]))], [(v_127, .inl (g 2, c_128, .inl f_129))], [(a_d_, .inl (g 0, n_d_, .inl d_))]] 4 [3, 0, 1, 2] rfl rfl (by decide) hP hD
    have hP : va_P (dC, dI) vwCl [(a_r_, .inl (g 0, n_r_, .inl r__132)), (a_text, .inr (1, [.ref v_127, .int 0, .int 0, .int k_130])), (v_127, .inl (g 2, c_128, .inl f_129)), (a_d_, .inl (g 0, n_d_, .inl d_))] H_131 := hP
    have hD : va_D A [(a_r_, .inl (g 0, n_r_, .inl r__132)), (a_text, .inr (1, [.ref v_127, .int 0, .int 0, .int k_130])), (v_127, .inl (g 2, c_128, .inl f_129)), (a_d_, .inl (g 0, n_d_, .inl d_))] := hD
    refine W.widen (k := 2) (n := 4000) (by omega) (by omega) ?_
    have JN33 : ∀ (sn_134 : Nat) (sf_135 : Nat → Int32) (as_133 : Nat) (has_133 : GSb sn_134 sf_135 as_133 A s) (H : Heap) (locs : List Loc), (wj_L_tells_33 n_r_ n_d_ d_ Q c_128 f_129 k_130 r__132) sn_134 sf_135 → va_P (dC, dI) vwCl [(a_r_, .inl (g 0, n_r_, .inl r__132)), (a_text, .inr (1, [.ref v_127, .int 0, .int 0, .int k_130])), (v_127, .inl (g 2, c_128, .inl f_129)), (a_d_, .inl (g 0, n_d_, .inl d_))] H → va_D A [(a_r_, .inl (g 0, n_r_, .inl r__132)), (a_text, .inr (1, [.ref v_127, .int 0, .int 0, .int k_130])), (v_127, .inl (g 2, c_128, .inl f_129)), (a_d_, .inl (g 0, n_d_, .inl d_))] → va_S A s.heap H locs → ∀ (ls : Array Slot), lv_has ls 3 [(0, .ref a_r_), (1, .ref a_text), (2, .ref a_d_)] → W p l e (headSpec wqL_tells ({ frames := 6, cells := 23, slots := 38016, locals := 171 })).room s m ([.ref a_r_, .ref a_text, .ref a_d_] : List Value).toArray below meth c H locs 2 4000 QM (F0 m 33 ls [.ref as_133, .ref a_text]) := by
      intro sn_134 sf_135 as_133 has_133 H locs hw hP hD hS ls hl
      obtain ⟨hPs, hDs⟩ := seg_call (segs := [[(a_r_, .inl (g 0, n_r_, .inl r__132))], [(a_text, .inr (1, [.ref v_127, .int 0, .int 0, .int k_130]))], [(v_127, .inl (g 2, c_128, .inl f_129))], [(a_d_, .inl (g 0, n_d_, .inl d_))]]) [[(a_r_, .inl (g 0, n_r_, .inl r__132))], [(a_d_, .inl (g 0, n_d_, .inl d_))]] [[(a_text, .inr (1, [.ref v_127, .int 0, .int 0, .int k_130]))], [(v_127, .inl (g 2, c_128, .inl f_129))]] 4 [0, 3, 1, 2] rfl rfl (by decide) hP hD
      have hPc : va_P (dC, dI) vwCl [(a_text, .inr (1, [.ref v_127, .int 0, .int 0, .int k_130])), (v_127, .inl (g 2, c_128, .inl f_129))] H := P_r hPs
      have hDc : va_D A [(a_text, .inr (1, [.ref v_127, .int 0, .int 0, .int k_130])), (v_127, .inl (g 2, c_128, .inl f_129))] := D_r hDs
      have hFc : ∀ q, va_A [(a_text, .inr (1, [.ref v_127, .int 0, .int 0, .int k_130])), (v_127, .inl (g 2, c_128, .inl f_129))] H.size q → A q := A_all hDc hA hS.1
      refine va_callq (va_runV (As := [.ref as_133]) (rest := []) ⟨hx, hb, hml, hown, hts⟩ (c_J4_append_15ec4 l dC dI g (a_this_ := a_text) (v_this_ := v_127) (c_this_ := c_128) (f_this_ := f_129) (k_this_ := k_130) (a_s_ := as_133) (s__n := sn_134) (s__f := sf_135) (hw := hw) (sz := H.size)) (cwV 1 hts (gqV aw_7_20 aw_6_139 aw_6_140 aw_1_26 aw_6_141) rfl rfl rfl (by decide +kernel) ⟨Nat.le_of_ble_eq_true rfl, Nat.le_of_ble_eq_true rfl⟩) ⟨PX_blind (GSb_go sn_134 sf_135 as_133), va_recv hK hP (ci := 1) (q0 := 1) rfl rfl, PX_call (GSb_go sn_134 sf_135 as_133) hK hG hS hPc hDc hFc has_133⟩ rfl rfl hl.1 rfl (lv_room (Nat.le_of_ble_eq_true rfl)) dL_tells_33 ⟨by rw [hrc]; omega, by rw [hrs]; omega⟩) hS (fun q _ h => hFc q h) hFc (fun r_137 u_137 t_137 H_137 L_137 ht_137 hvm_137 hw_137 hB_137 hz_137 hk_137 hS => ?_)
      obtain ⟨v_138, c_139, f_140, k_141, u_137⟩ := u_137
      obtain ⟨rfl, hw⟩ := hw_137
      rw [ht_137] at hB_137
      obtain ⟨hP1, hD1⟩ := hB_137
      obtain ⟨hP, hD⟩ := join_r hPs hDs hk_137 hFc hP1 hD1
      obtain ⟨hP, hD⟩ := seg_join [[(a_r_, .inl (g 0, n_r_, .inl r__132))], [(a_d_, .inl (g 0, n_d_, .inl d_))]] [[(a_text, .inr (1, [.ref v_138, .int 0, .int 0, .int k_141]))], [(v_138, .inl (g 2, c_139, .inl f_140))]] [[(a_r_, .inl (g 0, n_r_, .inl r__132))], [(a_text, .inr (1, [.ref v_138, .int 0, .int 0, .int k_141]))], [(v_138, .inl (g 2, c_139, .inl f_140))], [(a_d_, .inl (g 0, n_d_, .inl d_))]] 4 [0, 2, 3, 1] rfl rfl (by decide) hP hD
      have hP : va_P (dC, dI) vwCl [(a_r_, .inl (g 0, n_r_, .inl r__132)), (a_text, .inr (1, [.ref v_138, .int 0, .int 0, .int k_141])), (v_138, .inl (g 2, c_139, .inl f_140)), (a_d_, .inl (g 0, n_d_, .inl d_))] H_137 := hP
      have hD : va_D A [(a_r_, .inl (g 0, n_r_, .inl r__132)), (a_text, .inr (1, [.ref v_138, .int 0, .int 0, .int k_141])), (v_138, .inl (g 2, c_139, .inl f_140)), (a_d_, .inl (g 0, n_d_, .inl d_))] := hD
      refine W.widen (k := 3) (n := 6000) (by omega) (by omega) ?_
      refine lv_aload_n hx hb dL_tells_36 rfl (lv_at hl 2 rfl) ?_
      refine lv_iconst (v := 2) hx hb dL_tells_37 (by decide) ?_
      refine va_iald hx hb hK hP 3 0 rfl rfl hw.1 dL_tells_38 ?_
      have hw := hw.2
      refine lv_topi (fun x_142 ex_142 => ?_)
      have hw := hw x_142 ex_142
      obtain ⟨hPs, hDs⟩ := seg_call (segs := [[(a_r_, .inl (g 0, n_r_, .inl r__132))], [(a_text, .inr (1, [.ref v_138, .int 0, .int 0, .int k_141]))], [(v_138, .inl (g 2, c_139, .inl f_140))], [(a_d_, .inl (g 0, n_d_, .inl d_))]]) [[(a_r_, .inl (g 0, n_r_, .inl r__132))], [(a_d_, .inl (g 0, n_d_, .inl d_))]] [[(a_text, .inr (1, [.ref v_138, .int 0, .int 0, .int k_141]))], [(v_138, .inl (g 2, c_139, .inl f_140))]] 4 [0, 3, 1, 2] rfl rfl (by decide) hP hD
      have hPc : va_P (dC, dI) vwCl [(a_text, .inr (1, [.ref v_138, .int 0, .int 0, .int k_141])), (v_138, .inl (g 2, c_139, .inl f_140))] H_137 := P_r hPs
      have hDc : va_D A [(a_text, .inr (1, [.ref v_138, .int 0, .int 0, .int k_141])), (v_138, .inl (g 2, c_139, .inl f_140))] := D_r hDs
      have hFc : ∀ q, va_A [(a_text, .inr (1, [.ref v_138, .int 0, .int 0, .int k_141])), (v_138, .inl (g 2, c_139, .inl f_140))] H_137.size q → A q := A_all hDc hA hS.1
      refine va_callq (va_runV (As := [.int x_142]) (rest := []) ⟨hx, hb, hml, hown, hts⟩ (c_J4_append_bf812 l dC dI g (a_this_ := a_text) (v_this_ := v_138) (c_this_ := c_139) (f_this_ := f_140) (k_this_ := k_141) (i_ := x_142) (hw := hw) (sz := H_137.size)) (cwV 1 hts (gqV aw_7_21 aw_7_22 aw_7_23 aw_1_26 aw_7_24) rfl rfl rfl (by decide +kernel) ⟨Nat.le_of_ble_eq_true rfl, Nat.le_of_ble_eq_true rfl⟩) ⟨PG_blind, va_recv hK hP (ci := 1) (q0 := 1) rfl rfl, PG_call hK hG hS hPc hDc hFc⟩ rfl rfl hl.1 rfl (lv_room (Nat.le_of_ble_eq_true rfl)) dL_tells_39 ⟨by rw [hrc]; omega, by rw [hrs]; omega⟩) hS (fun q _ h => hFc q h) hFc (fun r_144 u_144 t_144 H_144 L_144 ht_144 hvm_144 hw_144 hB_144 hz_144 hk_144 hS => ?_)
      obtain ⟨v_145, c_146, f_147, k_148, u_144⟩ := u_144
      obtain ⟨rfl, hw⟩ := hw_144
      rw [ht_144] at hB_144
      obtain ⟨hP1, hD1⟩ := hB_144
      obtain ⟨hP, hD⟩ := join_r hPs hDs hk_144 hFc hP1 hD1
      obtain ⟨hP, hD⟩ := seg_join [[(a_r_, .inl (g 0, n_r_, .inl r__132))], [(a_d_, .inl (g 0, n_d_, .inl d_))]] [[(a_text, .inr (1, [.ref v_145, .int 0, .int 0, .int k_148]))], [(v_145, .inl (g 2, c_146, .inl f_147))]] [[(a_r_, .inl (g 0, n_r_, .inl r__132))], [(a_text, .inr (1, [.ref v_145, .int 0, .int 0, .int k_148]))], [(v_145, .inl (g 2, c_146, .inl f_147))], [(a_d_, .inl (g 0, n_d_, .inl d_))]] 4 [0, 2, 3, 1] rfl rfl (by decide) hP hD
      have hP : va_P (dC, dI) vwCl [(a_r_, .inl (g 0, n_r_, .inl r__132)), (a_text, .inr (1, [.ref v_145, .int 0, .int 0, .int k_148])), (v_145, .inl (g 2, c_146, .inl f_147)), (a_d_, .inl (g 0, n_d_, .inl d_))] H_144 := hP
      have hD : va_D A [(a_r_, .inl (g 0, n_r_, .inl r__132)), (a_text, .inr (1, [.ref v_145, .int 0, .int 0, .int k_148])), (v_145, .inl (g 2, c_146, .inl f_147)), (a_d_, .inl (g 0, n_d_, .inl d_))] := hD
      refine W.widen (k := 4) (n := 8000) (by omega) (by omega) ?_
      refine lv_pop hx hb dL_tells_42 rfl ?_
      refine lv_aload_n hx hb dL_tells_43 rfl (lv_at hl 2 rfl) ?_
      refine lv_iconst (v := 4) hx hb dL_tells_44 (by decide) ?_
      refine va_iald hx hb hK hP 3 0 rfl rfl hw.1 dL_tells_45 ?_
      have hw := hw.2
      refine lv_topi (fun x_149 ex_149 => ?_)
      have hw := hw x_149 ex_149
      refine lv_iconst (v := (-1)) hx hb dL_tells_46 (by decide) ?_
      have JN86 : ∀ (r__150 : Nat → Int32) (c_151 : Nat) (f_152 : Nat → Int32) (k_153 : Int32) (v_154 : Nat) (H : Heap) (locs : List Loc), (wj_L_tells_86 n_r_ n_d_ d_ Q) r__150 c_151 f_152 k_153 → va_P (dC, dI) vwCl [(a_r_, .inl (g 0, n_r_, .inl r__150)), (a_text, .inr (1, [.ref v_154, .int 0, .int 0, .int k_153])), (v_154, .inl (g 2, c_151, .inl f_152)), (a_d_, .inl (g 0, n_d_, .inl d_))] H → va_D A [(a_r_, .inl (g 0, n_r_, .inl r__150)), (a_text, .inr (1, [.ref v_154, .int 0, .int 0, .int k_153])), (v_154, .inl (g 2, c_151, .inl f_152)), (a_d_, .inl (g 0, n_d_, .inl d_))] → va_S A s.heap H locs → ∀ (ls : Array Slot), lv_has ls 3 [(0, .ref a_r_), (1, .ref a_text), (2, .ref a_d_)] → W p l e (headSpec wqL_tells ({ frames := 6, cells := 23, slots := 38016, locals := 171 })).room s m ([.ref a_r_, .ref a_text, .ref a_d_] : List Value).toArray below meth c H locs 6 12000 QM (F0 m 86 ls []) := by
        intro r__150 c_151 f_152 k_153 v_154 H locs hw hP hD hS ls hl
        refine lv_aload_n hx hb dL_tells_86 rfl (lv_at hl 2 rfl) ?_
        refine lv_iconst (v := 5) hx hb dL_tells_87 (by decide) ?_
        refine va_iald hx hb hK hP 3 0 rfl rfl hw.1 dL_tells_88 ?_
        have hw := hw.2
        refine lv_topi (fun x_155 ex_155 => ?_)
        have hw := hw x_155 ex_155
        refine lv_iconst (v := (-1)) hx hb dL_tells_89 (by decide) ?_
        have JN160 : ∀ (c_156 : Nat) (f_157 : Nat → Int32) (k_158 : Int32) (v_159 : Nat) (H : Heap) (locs : List Loc), (wj_L_tells_160 n_r_ n_d_ d_ Q r__150) c_156 f_157 k_158 → va_P (dC, dI) vwCl [(a_r_, .inl (g 0, n_r_, .inl r__150)), (a_text, .inr (1, [.ref v_159, .int 0, .int 0, .int k_158])), (v_159, .inl (g 2, c_156, .inl f_157)), (a_d_, .inl (g 0, n_d_, .inl d_))] H → va_D A [(a_r_, .inl (g 0, n_r_, .inl r__150)), (a_text, .inr (1, [.ref v_159, .int 0, .int 0, .int k_158])), (v_159, .inl (g 2, c_156, .inl f_157)), (a_d_, .inl (g 0, n_d_, .inl d_))] → va_S A s.heap H locs → ∀ (ls : Array Slot), lv_has ls 3 [(0, .ref a_r_), (1, .ref a_text), (2, .ref a_d_)] → W p l e (headSpec wqL_tells ({ frames := 6, cells := 23, slots := 38016, locals := 171 })).room s m ([.ref a_r_, .ref a_text, .ref a_d_] : List Value).toArray below meth c H locs 14 24008 QM (F0 m 160 ls []) := by
          intro c_156 f_157 k_158 v_159 H locs hw hP hD hS ls hl
          refine lv_aload_n hx hb dL_tells_160 rfl (lv_at hl 2 rfl) ?_
          refine lv_bipush (v := 7) hx hb dL_tells_161 (by decide) ?_
          refine va_iald hx hb hK hP 3 0 rfl rfl hw.1 dL_tells_163 ?_
          have hw := hw.2
          refine lv_topi (fun x_160 ex_160 => ?_)
          have hw := hw x_160 ex_160
          refine lv_iconst (v := (-1)) hx hb dL_tells_164 (by decide) ?_
          refine lv_icmp_eq (tgt := 401) hx hb dL_tells_165 (by decide) (fun c_161 => ?_) (fun c_161 => ?_)
          · have hw := hw.1 c_161
            refine W.widen (k := 22) (n := 36016) (by omega) (by omega) ?_
            exact JN401 c_156 f_157 k_158 r__150 v_159 _ _ hw hP hD hS _ (lv_sub hl [0, 1] rfl)
          · have hw := hw.2 c_161
            refine lv_aload_n hx hb dL_tells_168 rfl (lv_at hl 1 rfl) ?_
            refine lv_aload_n hx hb dL_tells_169 rfl (lv_at hl 2 rfl) ?_
            refine lv_bipush (v := 7) hx hb dL_tells_170 (by decide) ?_
            refine va_iald hx hb hK hP 3 0 rfl rfl hw.1 dL_tells_172 ?_
            have hw := hw.2
            refine lv_topi (fun x_162 ex_162 => ?_)
            have hw := hw x_162 ex_162
            have JN196 : ∀ (sn_164 : Nat) (sf_165 : Nat → Int32) (as_163 : Nat) (has_163 : GSb sn_164 sf_165 as_163 A s) (H : Heap) (locs : List Loc), (wj_L_tells_196 n_r_ n_d_ d_ Q r__150 c_156 f_157 k_158) sn_164 sf_165 → va_P (dC, dI) vwCl [(a_r_, .inl (g 0, n_r_, .inl r__150)), (a_text, .inr (1, [.ref v_159, .int 0, .int 0, .int k_158])), (v_159, .inl (g 2, c_156, .inl f_157)), (a_d_, .inl (g 0, n_d_, .inl d_))] H → va_D A [(a_r_, .inl (g 0, n_r_, .inl r__150)), (a_text, .inr (1, [.ref v_159, .int 0, .int 0, .int k_158])), (v_159, .inl (g 2, c_156, .inl f_157)), (a_d_, .inl (g 0, n_d_, .inl d_))] → va_S A s.heap H locs → ∀ (ls : Array Slot), lv_has ls 3 [(0, .ref a_r_), (1, .ref a_text), (2, .ref a_d_)] → W p l e (headSpec wqL_tells ({ frames := 6, cells := 23, slots := 38016, locals := 171 })).room s m ([.ref a_r_, .ref a_text, .ref a_d_] : List Value).toArray below meth c H locs 14 24008 QM (F0 m 196 ls [.ref as_163, .ref a_text]) := by
              intro sn_164 sf_165 as_163 has_163 H locs hw hP hD hS ls hl
              obtain ⟨hPs, hDs⟩ := seg_call (segs := [[(a_r_, .inl (g 0, n_r_, .inl r__150))], [(a_text, .inr (1, [.ref v_159, .int 0, .int 0, .int k_158]))], [(v_159, .inl (g 2, c_156, .inl f_157))], [(a_d_, .inl (g 0, n_d_, .inl d_))]]) [[(a_r_, .inl (g 0, n_r_, .inl r__150))], [(a_d_, .inl (g 0, n_d_, .inl d_))]] [[(a_text, .inr (1, [.ref v_159, .int 0, .int 0, .int k_158]))], [(v_159, .inl (g 2, c_156, .inl f_157))]] 4 [0, 3, 1, 2] rfl rfl (by decide) hP hD
              have hPc : va_P (dC, dI) vwCl [(a_text, .inr (1, [.ref v_159, .int 0, .int 0, .int k_158])), (v_159, .inl (g 2, c_156, .inl f_157))] H := P_r hPs
              have hDc : va_D A [(a_text, .inr (1, [.ref v_159, .int 0, .int 0, .int k_158])), (v_159, .inl (g 2, c_156, .inl f_157))] := D_r hDs
              have hFc : ∀ q, va_A [(a_text, .inr (1, [.ref v_159, .int 0, .int 0, .int k_158])), (v_159, .inl (g 2, c_156, .inl f_157))] H.size q → A q := A_all hDc hA hS.1
              refine va_callq (va_runV (As := [.ref as_163]) (rest := []) ⟨hx, hb, hml, hown, hts⟩ (c_J4_append_15ec4 l dC dI g (a_this_ := a_text) (v_this_ := v_159) (c_this_ := c_156) (f_this_ := f_157) (k_this_ := k_158) (a_s_ := as_163) (s__n := sn_164) (s__f := sf_165) (hw := hw) (sz := H.size)) (cwV 1 hts (gqV aw_7_20 aw_6_139 aw_6_140 aw_1_26 aw_6_141) rfl rfl rfl (by decide +kernel) ⟨Nat.le_of_ble_eq_true rfl, Nat.le_of_ble_eq_true rfl⟩) ⟨PX_blind (GSb_go sn_164 sf_165 as_163), va_recv hK hP (ci := 1) (q0 := 1) rfl rfl, PX_call (GSb_go sn_164 sf_165 as_163) hK hG hS hPc hDc hFc has_163⟩ rfl rfl hl.1 rfl (lv_room (Nat.le_of_ble_eq_true rfl)) dL_tells_196 ⟨by rw [hrc]; omega, by rw [hrs]; omega⟩) hS (fun q _ h => hFc q h) hFc (fun r_167 u_167 t_167 H_167 L_167 ht_167 hvm_167 hw_167 hB_167 hz_167 hk_167 hS => ?_)
              obtain ⟨v_168, c_169, f_170, k_171, u_167⟩ := u_167
              obtain ⟨rfl, hw⟩ := hw_167
              rw [ht_167] at hB_167
              obtain ⟨hP1, hD1⟩ := hB_167
              obtain ⟨hP, hD⟩ := join_r hPs hDs hk_167 hFc hP1 hD1
              obtain ⟨hP, hD⟩ := seg_join [[(a_r_, .inl (g 0, n_r_, .inl r__150))], [(a_d_, .inl (g 0, n_d_, .inl d_))]] [[(a_text, .inr (1, [.ref v_168, .int 0, .int 0, .int k_171]))], [(v_168, .inl (g 2, c_169, .inl f_170))]] [[(a_r_, .inl (g 0, n_r_, .inl r__150))], [(a_text, .inr (1, [.ref v_168, .int 0, .int 0, .int k_171]))], [(v_168, .inl (g 2, c_169, .inl f_170))], [(a_d_, .inl (g 0, n_d_, .inl d_))]] 4 [0, 2, 3, 1] rfl rfl (by decide) hP hD
              have hP : va_P (dC, dI) vwCl [(a_r_, .inl (g 0, n_r_, .inl r__150)), (a_text, .inr (1, [.ref v_168, .int 0, .int 0, .int k_171])), (v_168, .inl (g 2, c_169, .inl f_170)), (a_d_, .inl (g 0, n_d_, .inl d_))] H_167 := hP
              have hD : va_D A [(a_r_, .inl (g 0, n_r_, .inl r__150)), (a_text, .inr (1, [.ref v_168, .int 0, .int 0, .int k_171])), (v_168, .inl (g 2, c_169, .inl f_170)), (a_d_, .inl (g 0, n_d_, .inl d_))] := hD
              refine W.widen (k := 15) (n := 26008) (by omega) (by omega) ?_
              refine lv_aload_n hx hb dL_tells_199 rfl (lv_at hl 2 rfl) ?_
              refine lv_bipush (v := 7) hx hb dL_tells_200 (by decide) ?_
              refine va_iald hx hb hK hP 3 0 rfl rfl hw.1 dL_tells_202 ?_
              have hw := hw.2
              refine lv_topi (fun x_172 ex_172 => ?_)
              have hw := hw x_172 ex_172
              refine lv_iconst (v := 1) hx hb dL_tells_203 (by decide) ?_
              refine lv_icmp_ne (tgt := 212) hx hb dL_tells_204 (by decide) (fun c_173 => ?_) (fun c_173 => ?_)
              · have hw := hw.2 c_173
                refine va_new (ci := 1) (fs := [.null, .int 0, .int 0, .int 0]) (C := RJ4) (T := TJ4) (N := 4) hx hb hts hiJ4 tyJ4 tyJ4_ok hown hcl212 hinJ4 hiniJ4 hK hP hD hS hA rfl (fun j hj => by rcases (show j = 0 ∨ j = 1 ∨ j = 2 ∨ j = 3 by omega) with rfl | rfl | rfl | rfl <;> rfl) (by rw [hrc]; omega) (by rw [hrs]; omega) dL_tells_212 (fun a_q_174 H_175 hP hD hS => ?_)
                obtain ⟨hP, hD⟩ := seg_join [[(a_r_, .inl (g 0, n_r_, .inl r__150))], [(a_text, .inr (1, [.ref v_168, .int 0, .int 0, .int k_171]))], [(v_168, .inl (g 2, c_169, .inl f_170))], [(a_d_, .inl (g 0, n_d_, .inl d_))]] [[(a_q_174, .inr (1, [.null, .int 0, .int 0, .int 0]))]] [[(a_r_, .inl (g 0, n_r_, .inl r__150))], [(a_text, .inr (1, [.ref v_168, .int 0, .int 0, .int k_171]))], [(v_168, .inl (g 2, c_169, .inl f_170))], [(a_d_, .inl (g 0, n_d_, .inl d_))], [(a_q_174, .inr (1, [.null, .int 0, .int 0, .int 0]))]] 5 [0, 1, 2, 3, 4] rfl rfl (by decide) hP hD
                have hP : va_P (dC, dI) vwCl [(a_r_, .inl (g 0, n_r_, .inl r__150)), (a_text, .inr (1, [.ref v_168, .int 0, .int 0, .int k_171])), (v_168, .inl (g 2, c_169, .inl f_170)), (a_d_, .inl (g 0, n_d_, .inl d_)), (a_q_174, .inr (1, [.null, .int 0, .int 0, .int 0]))] H_175 := hP
                have hD : va_D A [(a_r_, .inl (g 0, n_r_, .inl r__150)), (a_text, .inr (1, [.ref v_168, .int 0, .int 0, .int k_171])), (v_168, .inl (g 2, c_169, .inl f_170)), (a_d_, .inl (g 0, n_d_, .inl d_)), (a_q_174, .inr (1, [.null, .int 0, .int 0, .int 0]))] := hD
                refine W.widen (k := 16) (n := 26012) (by omega) (by omega) ?_
                refine lv_dup hx hb dL_tells_215 rfl ?_
                obtain ⟨hPs, hDs⟩ := seg_call (segs := [[(a_r_, .inl (g 0, n_r_, .inl r__150))], [(a_text, .inr (1, [.ref v_168, .int 0, .int 0, .int k_171]))], [(v_168, .inl (g 2, c_169, .inl f_170))], [(a_d_, .inl (g 0, n_d_, .inl d_))], [(a_q_174, .inr (1, [.null, .int 0, .int 0, .int 0]))]]) [[(a_r_, .inl (g 0, n_r_, .inl r__150))], [(a_text, .inr (1, [.ref v_168, .int 0, .int 0, .int k_171]))], [(v_168, .inl (g 2, c_169, .inl f_170))], [(a_d_, .inl (g 0, n_d_, .inl d_))]] [[(a_q_174, .inr (1, [.null, .int 0, .int 0, .int 0]))]] 5 [0, 1, 2, 3, 4] rfl rfl (by decide) hP hD
                have hPc : va_P (dC, dI) vwCl [(a_q_174, .inr (1, [.null, .int 0, .int 0, .int 0]))] H_175 := P_r hPs
                have hDc : va_D A [(a_q_174, .inr (1, [.null, .int 0, .int 0, .int 0]))] := D_r hDs
                have hFc : ∀ q, va_A [(a_q_174, .inr (1, [.null, .int 0, .int 0, .int 0]))] H_175.size q → A q := A_all hDc hA hS.1
                refine va_callv (va_runI (As := []) (rest := [.ref a_q_174, .ref a_text]) ⟨hx, hb, hml, hown, hts⟩ (c_J4_init_da8c8 l dC dI g (a_this_ := a_q_174) (hw := hw) (sz := H_175.size)) (cwI 0 hts (gq0 aw_7_56) rfl rfl rfl hiniJ4 hml238 himJ4_init_da8c8 rfl (by decide +kernel) ⟨Nat.le_of_ble_eq_true rfl, Nat.le_of_ble_eq_true rfl⟩) ⟨PG_blind, PG_call hK hG hS hPc hDc hFc⟩ rfl rfl hl.1 rfl (lv_room (Nat.le_of_ble_eq_true rfl)) dL_tells_216 ⟨by rw [hrc]; omega, by rw [hrs]; omega⟩) hS (fun q _ h => hFc q h) hFc (fun u_177 t_177 H_177 L_177 ht_177 hvm_177 hw_177 hB_177 hz_177 hk_177 hS => ?_)
                obtain ⟨v_178, c_179, f_180, k_181, u_177⟩ := u_177
                have hw := hw_177
                rw [ht_177] at hB_177
                obtain ⟨hP1, hD1⟩ := hB_177
                obtain ⟨hP, hD⟩ := join_r hPs hDs hk_177 hFc hP1 hD1
                obtain ⟨hP, hD⟩ := seg_join [[(a_r_, .inl (g 0, n_r_, .inl r__150))], [(a_text, .inr (1, [.ref v_168, .int 0, .int 0, .int k_171]))], [(v_168, .inl (g 2, c_169, .inl f_170))], [(a_d_, .inl (g 0, n_d_, .inl d_))]] [[(a_q_174, .inr (1, [.ref v_178, .int 0, .int 0, .int k_181]))], [(v_178, .inl (g 2, c_179, .inl f_180))]] [[(a_r_, .inl (g 0, n_r_, .inl r__150))], [(a_text, .inr (1, [.ref v_168, .int 0, .int 0, .int k_171]))], [(v_168, .inl (g 2, c_169, .inl f_170))], [(a_d_, .inl (g 0, n_d_, .inl d_))], [(a_q_174, .inr (1, [.ref v_178, .int 0, .int 0, .int k_181]))], [(v_178, .inl (g 2, c_179, .inl f_180))]] 6 [0, 1, 2, 3, 4, 5] rfl rfl (by decide) hP hD
                have hP : va_P (dC, dI) vwCl [(a_r_, .inl (g 0, n_r_, .inl r__150)), (a_text, .inr (1, [.ref v_168, .int 0, .int 0, .int k_171])), (v_168, .inl (g 2, c_169, .inl f_170)), (a_d_, .inl (g 0, n_d_, .inl d_)), (a_q_174, .inr (1, [.ref v_178, .int 0, .int 0, .int k_181])), (v_178, .inl (g 2, c_179, .inl f_180))] H_177 := hP
                have hD : va_D A [(a_r_, .inl (g 0, n_r_, .inl r__150)), (a_text, .inr (1, [.ref v_168, .int 0, .int 0, .int k_171])), (v_168, .inl (g 2, c_169, .inl f_170)), (a_d_, .inl (g 0, n_d_, .inl d_)), (a_q_174, .inr (1, [.ref v_178, .int 0, .int 0, .int k_181])), (v_178, .inl (g 2, c_179, .inl f_180))] := hD
                refine W.widen (k := 17) (n := 28012) (by omega) (by omega) ?_
                obtain ⟨as_19, hR_19, hT_19⟩ := GSb_of (sx_19 hG)
                refine va_ldcS hx hb hown hR_19 dL_tells_219 ?_
                obtain ⟨hPs, hDs⟩ := seg_call (segs := [[(a_r_, .inl (g 0, n_r_, .inl r__150))], [(a_text, .inr (1, [.ref v_168, .int 0, .int 0, .int k_171]))], [(v_168, .inl (g 2, c_169, .inl f_170))], [(a_d_, .inl (g 0, n_d_, .inl d_))], [(a_q_174, .inr (1, [.ref v_178, .int 0, .int 0, .int k_181]))], [(v_178, .inl (g 2, c_179, .inl f_180))]]) [[(a_r_, .inl (g 0, n_r_, .inl r__150))], [(a_text, .inr (1, [.ref v_168, .int 0, .int 0, .int k_171]))], [(v_168, .inl (g 2, c_169, .inl f_170))], [(a_d_, .inl (g 0, n_d_, .inl d_))]] [[(a_q_174, .inr (1, [.ref v_178, .int 0, .int 0, .int k_181]))], [(v_178, .inl (g 2, c_179, .inl f_180))]] 6 [0, 1, 2, 3, 4, 5] rfl rfl (by decide) hP hD
                have hPc : va_P (dC, dI) vwCl [(a_q_174, .inr (1, [.ref v_178, .int 0, .int 0, .int k_181])), (v_178, .inl (g 2, c_179, .inl f_180))] H_177 := P_r hPs
                have hDc : va_D A [(a_q_174, .inr (1, [.ref v_178, .int 0, .int 0, .int k_181])), (v_178, .inl (g 2, c_179, .inl f_180))] := D_r hDs
                have hFc : ∀ q, va_A [(a_q_174, .inr (1, [.ref v_178, .int 0, .int 0, .int k_181])), (v_178, .inl (g 2, c_179, .inl f_180))] H_177.size q → A q := A_all hDc hA hS.1
                refine va_callq (va_runV (As := [.ref as_19]) (rest := [.ref a_text]) ⟨hx, hb, hml, hown, hts⟩ (c_J4_append_15ec4 l dC dI g (a_this_ := a_q_174) (v_this_ := v_178) (c_this_ := c_179) (f_this_ := f_180) (k_this_ := k_181) (a_s_ := as_19) (s__n := (tn 19)) (s__f := (tb 19)) (hw := hw) (sz := H_177.size)) (cwV 1 hts (gqV aw_7_20 aw_6_139 aw_6_140 aw_1_26 aw_6_141) rfl rfl rfl (by decide +kernel) ⟨Nat.le_of_ble_eq_true rfl, Nat.le_of_ble_eq_true rfl⟩) ⟨PX_blind (GSb_go (tn 19) (tb 19) as_19), va_recv hK hP (ci := 1) (q0 := 4) rfl rfl, PX_call (GSb_go (tn 19) (tb 19) as_19) hK hG hS hPc hDc hFc hT_19⟩ rfl rfl hl.1 rfl (lv_room (Nat.le_of_ble_eq_true rfl)) dL_tells_221 ⟨by rw [hrc]; omega, by rw [hrs]; omega⟩) hS (fun q _ h => hFc q h) hFc (fun r_183 u_183 t_183 H_183 L_183 ht_183 hvm_183 hw_183 hB_183 hz_183 hk_183 hS => ?_)
                obtain ⟨v_184, c_185, f_186, k_187, u_183⟩ := u_183
                obtain ⟨rfl, hw⟩ := hw_183
                rw [ht_183] at hB_183
                obtain ⟨hP1, hD1⟩ := hB_183
                obtain ⟨hP, hD⟩ := join_r hPs hDs hk_183 hFc hP1 hD1
                obtain ⟨hP, hD⟩ := seg_join [[(a_r_, .inl (g 0, n_r_, .inl r__150))], [(a_text, .inr (1, [.ref v_168, .int 0, .int 0, .int k_171]))], [(v_168, .inl (g 2, c_169, .inl f_170))], [(a_d_, .inl (g 0, n_d_, .inl d_))]] [[(a_q_174, .inr (1, [.ref v_184, .int 0, .int 0, .int k_187]))], [(v_184, .inl (g 2, c_185, .inl f_186))]] [[(a_r_, .inl (g 0, n_r_, .inl r__150))], [(a_text, .inr (1, [.ref v_168, .int 0, .int 0, .int k_171]))], [(v_168, .inl (g 2, c_169, .inl f_170))], [(a_d_, .inl (g 0, n_d_, .inl d_))], [(a_q_174, .inr (1, [.ref v_184, .int 0, .int 0, .int k_187]))], [(v_184, .inl (g 2, c_185, .inl f_186))]] 6 [0, 1, 2, 3, 4, 5] rfl rfl (by decide) hP hD
                have hP : va_P (dC, dI) vwCl [(a_r_, .inl (g 0, n_r_, .inl r__150)), (a_text, .inr (1, [.ref v_168, .int 0, .int 0, .int k_171])), (v_168, .inl (g 2, c_169, .inl f_170)), (a_d_, .inl (g 0, n_d_, .inl d_)), (a_q_174, .inr (1, [.ref v_184, .int 0, .int 0, .int k_187])), (v_184, .inl (g 2, c_185, .inl f_186))] H_183 := hP
                have hD : va_D A [(a_r_, .inl (g 0, n_r_, .inl r__150)), (a_text, .inr (1, [.ref v_168, .int 0, .int 0, .int k_171])), (v_168, .inl (g 2, c_169, .inl f_170)), (a_d_, .inl (g 0, n_d_, .inl d_)), (a_q_174, .inr (1, [.ref v_184, .int 0, .int 0, .int k_187])), (v_184, .inl (g 2, c_185, .inl f_186))] := hD
                refine W.widen (k := 18) (n := 30012) (by omega) (by omega) ?_
                refine lv_aload_n hx hb dL_tells_224 rfl (lv_at hl 2 rfl) ?_
                refine lv_bipush (v := 8) hx hb dL_tells_225 (by decide) ?_
                refine va_iald hx hb hK hP 3 0 rfl rfl hw.1 dL_tells_227 ?_
                have hw := hw.2
                refine lv_topi (fun x_188 ex_188 => ?_)
                have hw := hw x_188 ex_188
                obtain ⟨hPs, hDs⟩ := seg_call (segs := [[(a_r_, .inl (g 0, n_r_, .inl r__150))], [(a_text, .inr (1, [.ref v_168, .int 0, .int 0, .int k_171]))], [(v_168, .inl (g 2, c_169, .inl f_170))], [(a_d_, .inl (g 0, n_d_, .inl d_))], [(a_q_174, .inr (1, [.ref v_184, .int 0, .int 0, .int k_187]))], [(v_184, .inl (g 2, c_185, .inl f_186))]]) [[(a_r_, .inl (g 0, n_r_, .inl r__150))], [(a_text, .inr (1, [.ref v_168, .int 0, .int 0, .int k_171]))], [(v_168, .inl (g 2, c_169, .inl f_170))], [(a_d_, .inl (g 0, n_d_, .inl d_))]] [[(a_q_174, .inr (1, [.ref v_184, .int 0, .int 0, .int k_187]))], [(v_184, .inl (g 2, c_185, .inl f_186))]] 6 [0, 1, 2, 3, 4, 5] rfl rfl (by decide) hP hD
                have hPc : va_P (dC, dI) vwCl [(a_q_174, .inr (1, [.ref v_184, .int 0, .int 0, .int k_187])), (v_184, .inl (g 2, c_185, .inl f_186))] H_183 := P_r hPs
                have hDc : va_D A [(a_q_174, .inr (1, [.ref v_184, .int 0, .int 0, .int k_187])), (v_184, .inl (g 2, c_185, .inl f_186))] := D_r hDs
                have hFc : ∀ q, va_A [(a_q_174, .inr (1, [.ref v_184, .int 0, .int 0, .int k_187])), (v_184, .inl (g 2, c_185, .inl f_186))] H_183.size q → A q := A_all hDc hA hS.1
                refine va_callq (va_runV (As := [.int x_188]) (rest := [.ref a_text]) ⟨hx, hb, hml, hown, hts⟩ (c_J4_append_bf812 l dC dI g (a_this_ := a_q_174) (v_this_ := v_184) (c_this_ := c_185) (f_this_ := f_186) (k_this_ := k_187) (i_ := x_188) (hw := hw) (sz := H_183.size)) (cwV 1 hts (gqV aw_7_21 aw_7_22 aw_7_23 aw_1_26 aw_7_24) rfl rfl rfl (by decide +kernel) ⟨Nat.le_of_ble_eq_true rfl, Nat.le_of_ble_eq_true rfl⟩) ⟨PG_blind, va_recv hK hP (ci := 1) (q0 := 4) rfl rfl, PG_call hK hG hS hPc hDc hFc⟩ rfl rfl hl.1 rfl (lv_room (Nat.le_of_ble_eq_true rfl)) dL_tells_228 ⟨by rw [hrc]; omega, by rw [hrs]; omega⟩) hS (fun q _ h => hFc q h) hFc (fun r_190 u_190 t_190 H_190 L_190 ht_190 hvm_190 hw_190 hB_190 hz_190 hk_190 hS => ?_)
                obtain ⟨v_191, c_192, f_193, k_194, u_190⟩ := u_190
                obtain ⟨rfl, hw⟩ := hw_190
                rw [ht_190] at hB_190
                obtain ⟨hP1, hD1⟩ := hB_190
                obtain ⟨hP, hD⟩ := join_r hPs hDs hk_190 hFc hP1 hD1
                obtain ⟨hP, hD⟩ := seg_join [[(a_r_, .inl (g 0, n_r_, .inl r__150))], [(a_text, .inr (1, [.ref v_168, .int 0, .int 0, .int k_171]))], [(v_168, .inl (g 2, c_169, .inl f_170))], [(a_d_, .inl (g 0, n_d_, .inl d_))]] [[(a_q_174, .inr (1, [.ref v_191, .int 0, .int 0, .int k_194]))], [(v_191, .inl (g 2, c_192, .inl f_193))]] [[(a_r_, .inl (g 0, n_r_, .inl r__150))], [(a_text, .inr (1, [.ref v_168, .int 0, .int 0, .int k_171]))], [(v_168, .inl (g 2, c_169, .inl f_170))], [(a_d_, .inl (g 0, n_d_, .inl d_))], [(a_q_174, .inr (1, [.ref v_191, .int 0, .int 0, .int k_194]))], [(v_191, .inl (g 2, c_192, .inl f_193))]] 6 [0, 1, 2, 3, 4, 5] rfl rfl (by decide) hP hD
                have hP : va_P (dC, dI) vwCl [(a_r_, .inl (g 0, n_r_, .inl r__150)), (a_text, .inr (1, [.ref v_168, .int 0, .int 0, .int k_171])), (v_168, .inl (g 2, c_169, .inl f_170)), (a_d_, .inl (g 0, n_d_, .inl d_)), (a_q_174, .inr (1, [.ref v_191, .int 0, .int 0, .int k_194])), (v_191, .inl (g 2, c_192, .inl f_193))] H_190 := hP
                have hD : va_D A [(a_r_, .inl (g 0, n_r_, .inl r__150)), (a_text, .inr (1, [.ref v_168, .int 0, .int 0, .int k_171])), (v_168, .inl (g 2, c_169, .inl f_170)), (a_d_, .inl (g 0, n_d_, .inl d_)), (a_q_174, .inr (1, [.ref v_191, .int 0, .int 0, .int k_194])), (v_191, .inl (g 2, c_192, .inl f_193))] := hD
                refine W.widen (k := 19) (n := 32012) (by omega) (by omega) ?_
                obtain ⟨hPs, hDs⟩ := seg_call (segs := [[(a_r_, .inl (g 0, n_r_, .inl r__150))], [(a_text, .inr (1, [.ref v_168, .int 0, .int 0, .int k_171]))], [(v_168, .inl (g 2, c_169, .inl f_170))], [(a_d_, .inl (g 0, n_d_, .inl d_))], [(a_q_174, .inr (1, [.ref v_191, .int 0, .int 0, .int k_194]))], [(v_191, .inl (g 2, c_192, .inl f_193))]]) [[(a_r_, .inl (g 0, n_r_, .inl r__150))], [(a_text, .inr (1, [.ref v_168, .int 0, .int 0, .int k_171]))], [(v_168, .inl (g 2, c_169, .inl f_170))], [(a_d_, .inl (g 0, n_d_, .inl d_))]] [[(a_q_174, .inr (1, [.ref v_191, .int 0, .int 0, .int k_194]))], [(v_191, .inl (g 2, c_192, .inl f_193))]] 6 [0, 1, 2, 3, 4, 5] rfl rfl (by decide) hP hD
                have hPc : va_P (dC, dI) vwCl [(a_q_174, .inr (1, [.ref v_191, .int 0, .int 0, .int k_194])), (v_191, .inl (g 2, c_192, .inl f_193))] H_190 := P_r hPs
                have hDc : va_D A [(a_q_174, .inr (1, [.ref v_191, .int 0, .int 0, .int k_194])), (v_191, .inl (g 2, c_192, .inl f_193))] := D_r hDs
                have hFc : ∀ q, va_A [(a_q_174, .inr (1, [.ref v_191, .int 0, .int 0, .int k_194])), (v_191, .inl (g 2, c_192, .inl f_193))] H_190.size q → A q := A_all hDc hA hS.1
                refine va_callq (va_runV (As := []) (rest := [.ref a_text]) ⟨hx, hb, hml, hown, hts⟩ (c_J4_toString_0e30d l dC dI g (a_this_ := a_q_174) (v_this_ := v_191) (c_this_ := c_192) (f_this_ := f_193) (k_this_ := k_194) (hw := hw) (sz := H_190.size)) (cwV 0 hts (gqV aw_7_60 aw_7_61 aw_7_62 aw_1_26 aw_7_63) rfl rfl rfl (by decide +kernel) ⟨Nat.le_of_ble_eq_true rfl, Nat.le_of_ble_eq_true rfl⟩) ⟨PG_blind, va_recv hK hP (ci := 1) (q0 := 4) rfl rfl, PG_call hK hG hS hPc hDc hFc⟩ rfl rfl hl.1 rfl (lv_room (Nat.le_of_ble_eq_true rfl)) dL_tells_231 ⟨by rw [hrc]; omega, by rw [hrs]; omega⟩) hS (fun q _ h => hFc q h) hFc (fun r_196 u_196 t_196 H_196 L_196 ht_196 hvm_196 hw_196 hB_196 hz_196 hk_196 hS => ?_)
                obtain ⟨a_q_197, v_198, n_199, f_200, u_196⟩ := u_196
                obtain ⟨rfl, hw⟩ := hw_196
                rw [ht_196] at hB_196
                obtain ⟨hP1, hD1⟩ := hB_196
                obtain ⟨hP, hD⟩ := join_r hPs hDs hk_196 hFc hP1 hD1
                obtain ⟨hP, hD⟩ := seg_join [[(a_r_, .inl (g 0, n_r_, .inl r__150))], [(a_text, .inr (1, [.ref v_168, .int 0, .int 0, .int k_171]))], [(v_168, .inl (g 2, c_169, .inl f_170))], [(a_d_, .inl (g 0, n_d_, .inl d_))]] [[(a_q_174, .inr (1, [.ref v_191, .int 0, .int 0, .int k_194]))], [(v_191, .inl (g 2, c_192, .inl f_193))], [(a_q_197, .inr (0, [.ref v_198, .int 0, .int 0, .int 0]))], [(v_198, .inl (g 2, n_199, .inl f_200))]] [[(a_r_, .inl (g 0, n_r_, .inl r__150))], [(a_text, .inr (1, [.ref v_168, .int 0, .int 0, .int k_171]))], [(v_168, .inl (g 2, c_169, .inl f_170))], [(a_d_, .inl (g 0, n_d_, .inl d_))], [(a_q_174, .inr (1, [.ref v_191, .int 0, .int 0, .int k_194]))], [(v_191, .inl (g 2, c_192, .inl f_193))], [(a_q_197, .inr (0, [.ref v_198, .int 0, .int 0, .int 0]))], [(v_198, .inl (g 2, n_199, .inl f_200))]] 8 [0, 1, 2, 3, 4, 5, 6, 7] rfl rfl (by decide) hP hD
                have hP : va_P (dC, dI) vwCl [(a_r_, .inl (g 0, n_r_, .inl r__150)), (a_text, .inr (1, [.ref v_168, .int 0, .int 0, .int k_171])), (v_168, .inl (g 2, c_169, .inl f_170)), (a_d_, .inl (g 0, n_d_, .inl d_)), (a_q_174, .inr (1, [.ref v_191, .int 0, .int 0, .int k_194])), (v_191, .inl (g 2, c_192, .inl f_193)), (a_q_197, .inr (0, [.ref v_198, .int 0, .int 0, .int 0])), (v_198, .inl (g 2, n_199, .inl f_200))] H_196 := hP
                have hD : va_D A [(a_r_, .inl (g 0, n_r_, .inl r__150)), (a_text, .inr (1, [.ref v_168, .int 0, .int 0, .int k_171])), (v_168, .inl (g 2, c_169, .inl f_170)), (a_d_, .inl (g 0, n_d_, .inl d_)), (a_q_174, .inr (1, [.ref v_191, .int 0, .int 0, .int k_194])), (v_191, .inl (g 2, c_192, .inl f_193)), (a_q_197, .inr (0, [.ref v_198, .int 0, .int 0, .int 0])), (v_198, .inl (g 2, n_199, .inl f_200))] := hD
                refine W.widen (k := 21) (n := 34016) (by omega) (by omega) ?_
                obtain ⟨hPs, hDs⟩ := seg_call (segs := [[(a_r_, .inl (g 0, n_r_, .inl r__150))], [(a_text, .inr (1, [.ref v_168, .int 0, .int 0, .int k_171]))], [(v_168, .inl (g 2, c_169, .inl f_170))], [(a_d_, .inl (g 0, n_d_, .inl d_))], [(a_q_174, .inr (1, [.ref v_191, .int 0, .int 0, .int k_194]))], [(v_191, .inl (g 2, c_192, .inl f_193))], [(a_q_197, .inr (0, [.ref v_198, .int 0, .int 0, .int 0]))], [(v_198, .inl (g 2, n_199, .inl f_200))]]) [[(a_r_, .inl (g 0, n_r_, .inl r__150))], [(a_d_, .inl (g 0, n_d_, .inl d_))], [(a_q_174, .inr (1, [.ref v_191, .int 0, .int 0, .int k_194]))], [(v_191, .inl (g 2, c_192, .inl f_193))], [(a_q_197, .inr (0, [.ref v_198, .int 0, .int 0, .int 0]))], [(v_198, .inl (g 2, n_199, .inl f_200))]] [[(a_text, .inr (1, [.ref v_168, .int 0, .int 0, .int k_171]))], [(v_168, .inl (g 2, c_169, .inl f_170))]] 8 [0, 3, 4, 5, 6, 7, 1, 2] rfl rfl (by decide) hP hD
                have hPc : va_P (dC, dI) vwCl [(a_text, .inr (1, [.ref v_168, .int 0, .int 0, .int k_171])), (v_168, .inl (g 2, c_169, .inl f_170))] H_196 := P_r hPs
                have hDc : va_D A [(a_text, .inr (1, [.ref v_168, .int 0, .int 0, .int k_171])), (v_168, .inl (g 2, c_169, .inl f_170))] := D_r hDs
                have hFc : ∀ q, va_A [(a_text, .inr (1, [.ref v_168, .int 0, .int 0, .int k_171])), (v_168, .inl (g 2, c_169, .inl f_170))] H_196.size q → A q := A_all hDc hA hS.1
                refine va_callq (va_runV (As := [.ref a_q_197]) (rest := []) ⟨hx, hb, hml, hown, hts⟩ (c_J4_append_15ec4 l dC dI g (a_this_ := a_text) (v_this_ := v_168) (c_this_ := c_169) (f_this_ := f_170) (k_this_ := k_171) (a_s_ := a_q_197) (s__n := n_199) (s__f := f_200) (hw := hw) (sz := H_196.size)) (cwV 1 hts (gqV aw_7_20 aw_6_139 aw_6_140 aw_1_26 aw_6_141) rfl rfl rfl (by decide +kernel) ⟨Nat.le_of_ble_eq_true rfl, Nat.le_of_ble_eq_true rfl⟩) ⟨PX_blind (GSb_go n_199 f_200 a_q_197), va_recv hK hP (ci := 1) (q0 := 1) rfl rfl, PXd_call (GSb_go n_199 f_200 a_q_197) hK hG hS hPc hDc hFc (GSb_cells hts hiJ0 hK hPs hDs (k1 := 4) (k2 := 5) (ci := 0) rfl rfl rfl)⟩ rfl rfl hl.1 rfl (lv_room (Nat.le_of_ble_eq_true rfl)) dL_tells_234 ⟨by rw [hrc]; omega, by rw [hrs]; omega⟩) hS (fun q _ h => hFc q h) hFc (fun r_202 u_202 t_202 H_202 L_202 ht_202 hvm_202 hw_202 hB_202 hz_202 hk_202 hS => ?_)
                obtain ⟨v_203, c_204, f_205, k_206, u_202⟩ := u_202
                obtain ⟨rfl, hw⟩ := hw_202
                rw [ht_202] at hB_202
                obtain ⟨hP1, hD1⟩ := hB_202
                obtain ⟨hP, hD⟩ := join_r hPs hDs hk_202 hFc hP1 hD1
                obtain ⟨hP, hD⟩ := seg_join [[(a_r_, .inl (g 0, n_r_, .inl r__150))], [(a_d_, .inl (g 0, n_d_, .inl d_))], [(a_q_174, .inr (1, [.ref v_191, .int 0, .int 0, .int k_194]))], [(v_191, .inl (g 2, c_192, .inl f_193))], [(a_q_197, .inr (0, [.ref v_198, .int 0, .int 0, .int 0]))], [(v_198, .inl (g 2, n_199, .inl f_200))]] [[(a_text, .inr (1, [.ref v_203, .int 0, .int 0, .int k_206]))], [(v_203, .inl (g 2, c_204, .inl f_205))]] [[(a_r_, .inl (g 0, n_r_, .inl r__150))], [(a_text, .inr (1, [.ref v_203, .int 0, .int 0, .int k_206]))], [(v_203, .inl (g 2, c_204, .inl f_205))], [(a_d_, .inl (g 0, n_d_, .inl d_))], [(a_q_174, .inr (1, [.ref v_191, .int 0, .int 0, .int k_194]))], [(v_191, .inl (g 2, c_192, .inl f_193))], [(a_q_197, .inr (0, [.ref v_198, .int 0, .int 0, .int 0]))], [(v_198, .inl (g 2, n_199, .inl f_200))]] 8 [0, 6, 7, 1, 2, 3, 4, 5] rfl rfl (by decide) hP hD
                have hP : va_P (dC, dI) vwCl [(a_r_, .inl (g 0, n_r_, .inl r__150)), (a_text, .inr (1, [.ref v_203, .int 0, .int 0, .int k_206])), (v_203, .inl (g 2, c_204, .inl f_205)), (a_d_, .inl (g 0, n_d_, .inl d_)), (a_q_174, .inr (1, [.ref v_191, .int 0, .int 0, .int k_194])), (v_191, .inl (g 2, c_192, .inl f_193)), (a_q_197, .inr (0, [.ref v_198, .int 0, .int 0, .int 0])), (v_198, .inl (g 2, n_199, .inl f_200))] H_202 := hP
                have hD : va_D A [(a_r_, .inl (g 0, n_r_, .inl r__150)), (a_text, .inr (1, [.ref v_203, .int 0, .int 0, .int k_206])), (v_203, .inl (g 2, c_204, .inl f_205)), (a_d_, .inl (g 0, n_d_, .inl d_)), (a_q_174, .inr (1, [.ref v_191, .int 0, .int 0, .int k_194])), (v_191, .inl (g 2, c_192, .inl f_193)), (a_q_197, .inr (0, [.ref v_198, .int 0, .int 0, .int 0])), (v_198, .inl (g 2, n_199, .inl f_200))] := hD
                refine W.widen (k := 22) (n := 36016) (by omega) (by omega) ?_
                refine lv_pop hx hb dL_tells_237 rfl ?_
                refine lv_goto (tgt := 401) hx hb dL_tells_238 (by decide) ?_
                obtain ⟨hP, hD⟩ := seg_sub (segs := [[(a_r_, .inl (g 0, n_r_, .inl r__150))], [(a_text, .inr (1, [.ref v_203, .int 0, .int 0, .int k_206]))], [(v_203, .inl (g 2, c_204, .inl f_205))], [(a_d_, .inl (g 0, n_d_, .inl d_))], [(a_q_174, .inr (1, [.ref v_191, .int 0, .int 0, .int k_194]))], [(v_191, .inl (g 2, c_192, .inl f_193))], [(a_q_197, .inr (0, [.ref v_198, .int 0, .int 0, .int 0]))], [(v_198, .inl (g 2, n_199, .inl f_200))]]) [[(a_r_, .inl (g 0, n_r_, .inl r__150))], [(a_text, .inr (1, [.ref v_203, .int 0, .int 0, .int k_206]))], [(v_203, .inl (g 2, c_204, .inl f_205))], [(a_d_, .inl (g 0, n_d_, .inl d_))]] [[(a_q_174, .inr (1, [.ref v_191, .int 0, .int 0, .int k_194]))], [(v_191, .inl (g 2, c_192, .inl f_193))], [(a_q_197, .inr (0, [.ref v_198, .int 0, .int 0, .int 0]))], [(v_198, .inl (g 2, n_199, .inl f_200))]] 8 [0, 1, 2, 3, 4, 5, 6, 7] rfl rfl (by decide) hP hD
                refine W.widen (k := 22) (n := 36016) (by omega) (by omega) ?_
                exact JN401 c_204 f_205 k_206 r__150 v_203 _ _ hw hP hD hS _ (lv_sub hl [0, 1] rfl)
              · have hw := hw.1 c_173
                obtain ⟨as_19, hR_19, hT_19⟩ := GSb_of (sx_19 hG)
                refine va_ldcS hx hb hown hR_19 dL_tells_207 ?_
                refine lv_goto (tgt := 234) hx hb dL_tells_209 (by decide) ?_
                obtain ⟨hPs, hDs⟩ := seg_call (segs := [[(a_r_, .inl (g 0, n_r_, .inl r__150))], [(a_text, .inr (1, [.ref v_168, .int 0, .int 0, .int k_171]))], [(v_168, .inl (g 2, c_169, .inl f_170))], [(a_d_, .inl (g 0, n_d_, .inl d_))]]) [[(a_r_, .inl (g 0, n_r_, .inl r__150))], [(a_d_, .inl (g 0, n_d_, .inl d_))]] [[(a_text, .inr (1, [.ref v_168, .int 0, .int 0, .int k_171]))], [(v_168, .inl (g 2, c_169, .inl f_170))]] 4 [0, 3, 1, 2] rfl rfl (by decide) hP hD
                have hPc : va_P (dC, dI) vwCl [(a_text, .inr (1, [.ref v_168, .int 0, .int 0, .int k_171])), (v_168, .inl (g 2, c_169, .inl f_170))] H_167 := P_r hPs
                have hDc : va_D A [(a_text, .inr (1, [.ref v_168, .int 0, .int 0, .int k_171])), (v_168, .inl (g 2, c_169, .inl f_170))] := D_r hDs
                have hFc : ∀ q, va_A [(a_text, .inr (1, [.ref v_168, .int 0, .int 0, .int k_171])), (v_168, .inl (g 2, c_169, .inl f_170))] H_167.size q → A q := A_all hDc hA hS.1
                refine va_callq (va_runV (As := [.ref as_19]) (rest := []) ⟨hx, hb, hml, hown, hts⟩ (c_J4_append_15ec4 l dC dI g (a_this_ := a_text) (v_this_ := v_168) (c_this_ := c_169) (f_this_ := f_170) (k_this_ := k_171) (a_s_ := as_19) (s__n := (tn 19)) (s__f := (tb 19)) (hw := hw) (sz := H_167.size)) (cwV 1 hts (gqV aw_7_20 aw_6_139 aw_6_140 aw_1_26 aw_6_141) rfl rfl rfl (by decide +kernel) ⟨Nat.le_of_ble_eq_true rfl, Nat.le_of_ble_eq_true rfl⟩) ⟨PX_blind (GSb_go (tn 19) (tb 19) as_19), va_recv hK hP (ci := 1) (q0 := 1) rfl rfl, PX_call (GSb_go (tn 19) (tb 19) as_19) hK hG hS hPc hDc hFc hT_19⟩ rfl rfl hl.1 rfl (lv_room (Nat.le_of_ble_eq_true rfl)) dL_tells_234 ⟨by rw [hrc]; omega, by rw [hrs]; omega⟩) hS (fun q _ h => hFc q h) hFc (fun r_208 u_208 t_208 H_208 L_208 ht_208 hvm_208 hw_208 hB_208 hz_208 hk_208 hS => ?_)
                obtain ⟨v_209, c_210, f_211, k_212, u_208⟩ := u_208
                obtain ⟨rfl, hw⟩ := hw_208
                rw [ht_208] at hB_208
                obtain ⟨hP1, hD1⟩ := hB_208
                obtain ⟨hP, hD⟩ := join_r hPs hDs hk_208 hFc hP1 hD1
                obtain ⟨hP, hD⟩ := seg_join [[(a_r_, .inl (g 0, n_r_, .inl r__150))], [(a_d_, .inl (g 0, n_d_, .inl d_))]] [[(a_text, .inr (1, [.ref v_209, .int 0, .int 0, .int k_212]))], [(v_209, .inl (g 2, c_210, .inl f_211))]] [[(a_r_, .inl (g 0, n_r_, .inl r__150))], [(a_text, .inr (1, [.ref v_209, .int 0, .int 0, .int k_212]))], [(v_209, .inl (g 2, c_210, .inl f_211))], [(a_d_, .inl (g 0, n_d_, .inl d_))]] 4 [0, 2, 3, 1] rfl rfl (by decide) hP hD
                have hP : va_P (dC, dI) vwCl [(a_r_, .inl (g 0, n_r_, .inl r__150)), (a_text, .inr (1, [.ref v_209, .int 0, .int 0, .int k_212])), (v_209, .inl (g 2, c_210, .inl f_211)), (a_d_, .inl (g 0, n_d_, .inl d_))] H_208 := hP
                have hD : va_D A [(a_r_, .inl (g 0, n_r_, .inl r__150)), (a_text, .inr (1, [.ref v_209, .int 0, .int 0, .int k_212])), (v_209, .inl (g 2, c_210, .inl f_211)), (a_d_, .inl (g 0, n_d_, .inl d_))] := hD
                refine W.widen (k := 16) (n := 28008) (by omega) (by omega) ?_
                refine lv_pop hx hb dL_tells_237 rfl ?_
                refine lv_goto (tgt := 401) hx hb dL_tells_238 (by decide) ?_
                refine W.widen (k := 22) (n := 36016) (by omega) (by omega) ?_
                exact JN401 c_210 f_211 k_212 r__150 v_209 _ _ hw hP hD hS _ (lv_sub hl [0, 1] rfl)
            refine lv_if_ne (tgt := 181) hx hb dL_tells_173 (by decide) (fun c_213 => ?_) (fun c_213 => ?_)
            · have hw := hw.2 c_213
              refine lv_aload_n hx hb dL_tells_181 rfl (lv_at hl 2 rfl) ?_
              refine lv_bipush (v := 7) hx hb dL_tells_182 (by decide) ?_
              refine va_iald hx hb hK hP 3 0 rfl rfl hw.1 dL_tells_184 ?_
              have hw := hw.2
              refine lv_topi (fun x_214 ex_214 => ?_)
              have hw := hw x_214 ex_214
              refine lv_iconst (v := 1) hx hb dL_tells_185 (by decide) ?_
              refine lv_icmp_ne (tgt := 194) hx hb dL_tells_186 (by decide) (fun c_215 => ?_) (fun c_215 => ?_)
              · have hw := hw.2 c_215
                obtain ⟨as_31, hR_31, hT_31⟩ := GSb_of (sx_31 hG)
                refine va_ldcS hx hb hown hR_31 dL_tells_194 ?_
                refine W.widen (k := 14) (n := 24008) (by omega) (by omega) ?_
                exact JN196 (tn 30) (tb 30) as_31 hT_31 _ _ hw hP hD hS _ (lv_sub hl [0, 1, 2] rfl)
              · have hw := hw.1 c_215
                obtain ⟨as_30, hR_30, hT_30⟩ := GSb_of (sx_30 hG)
                refine va_ldcS hx hb hown hR_30 dL_tells_189 ?_
                refine lv_goto (tgt := 196) hx hb dL_tells_191 (by decide) ?_
                refine W.widen (k := 14) (n := 24008) (by omega) (by omega) ?_
                exact JN196 (tn 29) (tb 29) as_30 hT_30 _ _ hw hP hD hS _ (lv_sub hl [0, 1, 2] rfl)
            · have hw := hw.1 c_213
              obtain ⟨as_29, hR_29, hT_29⟩ := GSb_of (sx_29 hG)
              refine va_ldcS hx hb hown hR_29 dL_tells_176 ?_
              refine lv_goto (tgt := 196) hx hb dL_tells_178 (by decide) ?_
              refine W.widen (k := 14) (n := 24008) (by omega) (by omega) ?_
              exact JN196 (tn 28) (tb 28) as_29 hT_29 _ _ hw hP hD hS _ (lv_sub hl [0, 1, 2] rfl)
        refine lv_icmp_eq (tgt := 160) hx hb dL_tells_90 (by decide) (fun c_216 => ?_) (fun c_216 => ?_)
        · have hw := hw.1 c_216
          refine W.widen (k := 14) (n := 24008) (by omega) (by omega) ?_
          exact JN160 c_151 f_152 k_153 v_154 _ _ hw hP hD hS _ (lv_sub hl [0, 1, 2] rfl)
        · have hw := hw.2 c_216
          refine lv_aload_n hx hb dL_tells_93 rfl (lv_at hl 1 rfl) ?_
          refine lv_aload_n hx hb dL_tells_94 rfl (lv_at hl 2 rfl) ?_
          refine lv_iconst (v := 5) hx hb dL_tells_95 (by decide) ?_
          refine va_iald hx hb hK hP 3 0 rfl rfl hw.1 dL_tells_96 ?_
          have hw := hw.2
          refine lv_topi (fun x_217 ex_217 => ?_)
          have hw := hw x_217 ex_217
          have JN119 : ∀ (sn_219 : Nat) (sf_220 : Nat → Int32) (as_218 : Nat) (has_218 : GSb sn_219 sf_220 as_218 A s) (H : Heap) (locs : List Loc), (wj_L_tells_119 n_r_ n_d_ d_ Q r__150 c_151 f_152 k_153) sn_219 sf_220 → va_P (dC, dI) vwCl [(a_r_, .inl (g 0, n_r_, .inl r__150)), (a_text, .inr (1, [.ref v_154, .int 0, .int 0, .int k_153])), (v_154, .inl (g 2, c_151, .inl f_152)), (a_d_, .inl (g 0, n_d_, .inl d_))] H → va_D A [(a_r_, .inl (g 0, n_r_, .inl r__150)), (a_text, .inr (1, [.ref v_154, .int 0, .int 0, .int k_153])), (v_154, .inl (g 2, c_151, .inl f_152)), (a_d_, .inl (g 0, n_d_, .inl d_))] → va_S A s.heap H locs → ∀ (ls : Array Slot), lv_has ls 3 [(0, .ref a_r_), (1, .ref a_text), (2, .ref a_d_)] → W p l e (headSpec wqL_tells ({ frames := 6, cells := 23, slots := 38016, locals := 171 })).room s m ([.ref a_r_, .ref a_text, .ref a_d_] : List Value).toArray below meth c H locs 6 12000 QM (F0 m 119 ls [.ref as_218, .ref a_text]) := by
            intro sn_219 sf_220 as_218 has_218 H locs hw hP hD hS ls hl
            obtain ⟨hPs, hDs⟩ := seg_call (segs := [[(a_r_, .inl (g 0, n_r_, .inl r__150))], [(a_text, .inr (1, [.ref v_154, .int 0, .int 0, .int k_153]))], [(v_154, .inl (g 2, c_151, .inl f_152))], [(a_d_, .inl (g 0, n_d_, .inl d_))]]) [[(a_r_, .inl (g 0, n_r_, .inl r__150))], [(a_d_, .inl (g 0, n_d_, .inl d_))]] [[(a_text, .inr (1, [.ref v_154, .int 0, .int 0, .int k_153]))], [(v_154, .inl (g 2, c_151, .inl f_152))]] 4 [0, 3, 1, 2] rfl rfl (by decide) hP hD
            have hPc : va_P (dC, dI) vwCl [(a_text, .inr (1, [.ref v_154, .int 0, .int 0, .int k_153])), (v_154, .inl (g 2, c_151, .inl f_152))] H := P_r hPs
            have hDc : va_D A [(a_text, .inr (1, [.ref v_154, .int 0, .int 0, .int k_153])), (v_154, .inl (g 2, c_151, .inl f_152))] := D_r hDs
            have hFc : ∀ q, va_A [(a_text, .inr (1, [.ref v_154, .int 0, .int 0, .int k_153])), (v_154, .inl (g 2, c_151, .inl f_152))] H.size q → A q := A_all hDc hA hS.1
            refine va_callq (va_runV (As := [.ref as_218]) (rest := []) ⟨hx, hb, hml, hown, hts⟩ (c_J4_append_15ec4 l dC dI g (a_this_ := a_text) (v_this_ := v_154) (c_this_ := c_151) (f_this_ := f_152) (k_this_ := k_153) (a_s_ := as_218) (s__n := sn_219) (s__f := sf_220) (hw := hw) (sz := H.size)) (cwV 1 hts (gqV aw_7_20 aw_6_139 aw_6_140 aw_1_26 aw_6_141) rfl rfl rfl (by decide +kernel) ⟨Nat.le_of_ble_eq_true rfl, Nat.le_of_ble_eq_true rfl⟩) ⟨PX_blind (GSb_go sn_219 sf_220 as_218), va_recv hK hP (ci := 1) (q0 := 1) rfl rfl, PX_call (GSb_go sn_219 sf_220 as_218) hK hG hS hPc hDc hFc has_218⟩ rfl rfl hl.1 rfl (lv_room (Nat.le_of_ble_eq_true rfl)) dL_tells_119 ⟨by rw [hrc]; omega, by rw [hrs]; omega⟩) hS (fun q _ h => hFc q h) hFc (fun r_222 u_222 t_222 H_222 L_222 ht_222 hvm_222 hw_222 hB_222 hz_222 hk_222 hS => ?_)
            obtain ⟨v_223, c_224, f_225, k_226, u_222⟩ := u_222
            obtain ⟨rfl, hw⟩ := hw_222
            rw [ht_222] at hB_222
            obtain ⟨hP1, hD1⟩ := hB_222
            obtain ⟨hP, hD⟩ := join_r hPs hDs hk_222 hFc hP1 hD1
            obtain ⟨hP, hD⟩ := seg_join [[(a_r_, .inl (g 0, n_r_, .inl r__150))], [(a_d_, .inl (g 0, n_d_, .inl d_))]] [[(a_text, .inr (1, [.ref v_223, .int 0, .int 0, .int k_226]))], [(v_223, .inl (g 2, c_224, .inl f_225))]] [[(a_r_, .inl (g 0, n_r_, .inl r__150))], [(a_text, .inr (1, [.ref v_223, .int 0, .int 0, .int k_226]))], [(v_223, .inl (g 2, c_224, .inl f_225))], [(a_d_, .inl (g 0, n_d_, .inl d_))]] 4 [0, 2, 3, 1] rfl rfl (by decide) hP hD
            have hP : va_P (dC, dI) vwCl [(a_r_, .inl (g 0, n_r_, .inl r__150)), (a_text, .inr (1, [.ref v_223, .int 0, .int 0, .int k_226])), (v_223, .inl (g 2, c_224, .inl f_225)), (a_d_, .inl (g 0, n_d_, .inl d_))] H_222 := hP
            have hD : va_D A [(a_r_, .inl (g 0, n_r_, .inl r__150)), (a_text, .inr (1, [.ref v_223, .int 0, .int 0, .int k_226])), (v_223, .inl (g 2, c_224, .inl f_225)), (a_d_, .inl (g 0, n_d_, .inl d_))] := hD
            refine W.widen (k := 7) (n := 14000) (by omega) (by omega) ?_
            refine lv_aload_n hx hb dL_tells_122 rfl (lv_at hl 2 rfl) ?_
            refine lv_iconst (v := 5) hx hb dL_tells_123 (by decide) ?_
            refine va_iald hx hb hK hP 3 0 rfl rfl hw.1 dL_tells_124 ?_
            have hw := hw.2
            refine lv_topi (fun x_227 ex_227 => ?_)
            have hw := hw x_227 ex_227
            refine lv_iconst (v := 2) hx hb dL_tells_125 (by decide) ?_
            refine lv_icmp_ne (tgt := 134) hx hb dL_tells_126 (by decide) (fun c_228 => ?_) (fun c_228 => ?_)
            · have hw := hw.2 c_228
              refine va_new (ci := 1) (fs := [.null, .int 0, .int 0, .int 0]) (C := RJ4) (T := TJ4) (N := 4) hx hb hts hiJ4 tyJ4 tyJ4_ok hown hcl212 hinJ4 hiniJ4 hK hP hD hS hA rfl (fun j hj => by rcases (show j = 0 ∨ j = 1 ∨ j = 2 ∨ j = 3 by omega) with rfl | rfl | rfl | rfl <;> rfl) (by rw [hrc]; omega) (by rw [hrs]; omega) dL_tells_134 (fun a_q_229 H_230 hP hD hS => ?_)
              obtain ⟨hP, hD⟩ := seg_join [[(a_r_, .inl (g 0, n_r_, .inl r__150))], [(a_text, .inr (1, [.ref v_223, .int 0, .int 0, .int k_226]))], [(v_223, .inl (g 2, c_224, .inl f_225))], [(a_d_, .inl (g 0, n_d_, .inl d_))]] [[(a_q_229, .inr (1, [.null, .int 0, .int 0, .int 0]))]] [[(a_r_, .inl (g 0, n_r_, .inl r__150))], [(a_text, .inr (1, [.ref v_223, .int 0, .int 0, .int k_226]))], [(v_223, .inl (g 2, c_224, .inl f_225))], [(a_d_, .inl (g 0, n_d_, .inl d_))], [(a_q_229, .inr (1, [.null, .int 0, .int 0, .int 0]))]] 5 [0, 1, 2, 3, 4] rfl rfl (by decide) hP hD
              have hP : va_P (dC, dI) vwCl [(a_r_, .inl (g 0, n_r_, .inl r__150)), (a_text, .inr (1, [.ref v_223, .int 0, .int 0, .int k_226])), (v_223, .inl (g 2, c_224, .inl f_225)), (a_d_, .inl (g 0, n_d_, .inl d_)), (a_q_229, .inr (1, [.null, .int 0, .int 0, .int 0]))] H_230 := hP
              have hD : va_D A [(a_r_, .inl (g 0, n_r_, .inl r__150)), (a_text, .inr (1, [.ref v_223, .int 0, .int 0, .int k_226])), (v_223, .inl (g 2, c_224, .inl f_225)), (a_d_, .inl (g 0, n_d_, .inl d_)), (a_q_229, .inr (1, [.null, .int 0, .int 0, .int 0]))] := hD
              refine W.widen (k := 8) (n := 14004) (by omega) (by omega) ?_
              refine lv_dup hx hb dL_tells_137 rfl ?_
              obtain ⟨hPs, hDs⟩ := seg_call (segs := [[(a_r_, .inl (g 0, n_r_, .inl r__150))], [(a_text, .inr (1, [.ref v_223, .int 0, .int 0, .int k_226]))], [(v_223, .inl (g 2, c_224, .inl f_225))], [(a_d_, .inl (g 0, n_d_, .inl d_))], [(a_q_229, .inr (1, [.null, .int 0, .int 0, .int 0]))]]) [[(a_r_, .inl (g 0, n_r_, .inl r__150))], [(a_text, .inr (1, [.ref v_223, .int 0, .int 0, .int k_226]))], [(v_223, .inl (g 2, c_224, .inl f_225))], [(a_d_, .inl (g 0, n_d_, .inl d_))]] [[(a_q_229, .inr (1, [.null, .int 0, .int 0, .int 0]))]] 5 [0, 1, 2, 3, 4] rfl rfl (by decide) hP hD
              have hPc : va_P (dC, dI) vwCl [(a_q_229, .inr (1, [.null, .int 0, .int 0, .int 0]))] H_230 := P_r hPs
              have hDc : va_D A [(a_q_229, .inr (1, [.null, .int 0, .int 0, .int 0]))] := D_r hDs
              have hFc : ∀ q, va_A [(a_q_229, .inr (1, [.null, .int 0, .int 0, .int 0]))] H_230.size q → A q := A_all hDc hA hS.1
              refine va_callv (va_runI (As := []) (rest := [.ref a_q_229, .ref a_text]) ⟨hx, hb, hml, hown, hts⟩ (c_J4_init_da8c8 l dC dI g (a_this_ := a_q_229) (hw := hw) (sz := H_230.size)) (cwI 0 hts (gq0 aw_7_56) rfl rfl rfl hiniJ4 hml238 himJ4_init_da8c8 rfl (by decide +kernel) ⟨Nat.le_of_ble_eq_true rfl, Nat.le_of_ble_eq_true rfl⟩) ⟨PG_blind, PG_call hK hG hS hPc hDc hFc⟩ rfl rfl hl.1 rfl (lv_room (Nat.le_of_ble_eq_true rfl)) dL_tells_138 ⟨by rw [hrc]; omega, by rw [hrs]; omega⟩) hS (fun q _ h => hFc q h) hFc (fun u_232 t_232 H_232 L_232 ht_232 hvm_232 hw_232 hB_232 hz_232 hk_232 hS => ?_)
              obtain ⟨v_233, c_234, f_235, k_236, u_232⟩ := u_232
              have hw := hw_232
              rw [ht_232] at hB_232
              obtain ⟨hP1, hD1⟩ := hB_232
              obtain ⟨hP, hD⟩ := join_r hPs hDs hk_232 hFc hP1 hD1
              obtain ⟨hP, hD⟩ := seg_join [[(a_r_, .inl (g 0, n_r_, .inl r__150))], [(a_text, .inr (1, [.ref v_223, .int 0, .int 0, .int k_226]))], [(v_223, .inl (g 2, c_224, .inl f_225))], [(a_d_, .inl (g 0, n_d_, .inl d_))]] [[(a_q_229, .inr (1, [.ref v_233, .int 0, .int 0, .int k_236]))], [(v_233, .inl (g 2, c_234, .inl f_235))]] [[(a_r_, .inl (g 0, n_r_, .inl r__150))], [(a_text, .inr (1, [.ref v_223, .int 0, .int 0, .int k_226]))], [(v_223, .inl (g 2, c_224, .inl f_225))], [(a_d_, .inl (g 0, n_d_, .inl d_))], [(a_q_229, .inr (1, [.ref v_233, .int 0, .int 0, .int k_236]))], [(v_233, .inl (g 2, c_234, .inl f_235))]] 6 [0, 1, 2, 3, 4, 5] rfl rfl (by decide) hP hD
              have hP : va_P (dC, dI) vwCl [(a_r_, .inl (g 0, n_r_, .inl r__150)), (a_text, .inr (1, [.ref v_223, .int 0, .int 0, .int k_226])), (v_223, .inl (g 2, c_224, .inl f_225)), (a_d_, .inl (g 0, n_d_, .inl d_)), (a_q_229, .inr (1, [.ref v_233, .int 0, .int 0, .int k_236])), (v_233, .inl (g 2, c_234, .inl f_235))] H_232 := hP
              have hD : va_D A [(a_r_, .inl (g 0, n_r_, .inl r__150)), (a_text, .inr (1, [.ref v_223, .int 0, .int 0, .int k_226])), (v_223, .inl (g 2, c_224, .inl f_225)), (a_d_, .inl (g 0, n_d_, .inl d_)), (a_q_229, .inr (1, [.ref v_233, .int 0, .int 0, .int k_236])), (v_233, .inl (g 2, c_234, .inl f_235))] := hD
              refine W.widen (k := 9) (n := 16004) (by omega) (by omega) ?_
              obtain ⟨as_19, hR_19, hT_19⟩ := GSb_of (sx_19 hG)
              refine va_ldcS hx hb hown hR_19 dL_tells_141 ?_
              obtain ⟨hPs, hDs⟩ := seg_call (segs := [[(a_r_, .inl (g 0, n_r_, .inl r__150))], [(a_text, .inr (1, [.ref v_223, .int 0, .int 0, .int k_226]))], [(v_223, .inl (g 2, c_224, .inl f_225))], [(a_d_, .inl (g 0, n_d_, .inl d_))], [(a_q_229, .inr (1, [.ref v_233, .int 0, .int 0, .int k_236]))], [(v_233, .inl (g 2, c_234, .inl f_235))]]) [[(a_r_, .inl (g 0, n_r_, .inl r__150))], [(a_text, .inr (1, [.ref v_223, .int 0, .int 0, .int k_226]))], [(v_223, .inl (g 2, c_224, .inl f_225))], [(a_d_, .inl (g 0, n_d_, .inl d_))]] [[(a_q_229, .inr (1, [.ref v_233, .int 0, .int 0, .int k_236]))], [(v_233, .inl (g 2, c_234, .inl f_235))]] 6 [0, 1, 2, 3, 4, 5] rfl rfl (by decide) hP hD
              have hPc : va_P (dC, dI) vwCl [(a_q_229, .inr (1, [.ref v_233, .int 0, .int 0, .int k_236])), (v_233, .inl (g 2, c_234, .inl f_235))] H_232 := P_r hPs
              have hDc : va_D A [(a_q_229, .inr (1, [.ref v_233, .int 0, .int 0, .int k_236])), (v_233, .inl (g 2, c_234, .inl f_235))] := D_r hDs
              have hFc : ∀ q, va_A [(a_q_229, .inr (1, [.ref v_233, .int 0, .int 0, .int k_236])), (v_233, .inl (g 2, c_234, .inl f_235))] H_232.size q → A q := A_all hDc hA hS.1
              refine va_callq (va_runV (As := [.ref as_19]) (rest := [.ref a_text]) ⟨hx, hb, hml, hown, hts⟩ (c_J4_append_15ec4 l dC dI g (a_this_ := a_q_229) (v_this_ := v_233) (c_this_ := c_234) (f_this_ := f_235) (k_this_ := k_236) (a_s_ := as_19) (s__n := (tn 19)) (s__f := (tb 19)) (hw := hw) (sz := H_232.size)) (cwV 1 hts (gqV aw_7_20 aw_6_139 aw_6_140 aw_1_26 aw_6_141) rfl rfl rfl (by decide +kernel) ⟨Nat.le_of_ble_eq_true rfl, Nat.le_of_ble_eq_true rfl⟩) ⟨PX_blind (GSb_go (tn 19) (tb 19) as_19), va_recv hK hP (ci := 1) (q0 := 4) rfl rfl, PX_call (GSb_go (tn 19) (tb 19) as_19) hK hG hS hPc hDc hFc hT_19⟩ rfl rfl hl.1 rfl (lv_room (Nat.le_of_ble_eq_true rfl)) dL_tells_143 ⟨by rw [hrc]; omega, by rw [hrs]; omega⟩) hS (fun q _ h => hFc q h) hFc (fun r_238 u_238 t_238 H_238 L_238 ht_238 hvm_238 hw_238 hB_238 hz_238 hk_238 hS => ?_)
              obtain ⟨v_239, c_240, f_241, k_242, u_238⟩ := u_238
              obtain ⟨rfl, hw⟩ := hw_238
              rw [ht_238] at hB_238
              obtain ⟨hP1, hD1⟩ := hB_238
              obtain ⟨hP, hD⟩ := join_r hPs hDs hk_238 hFc hP1 hD1
              obtain ⟨hP, hD⟩ := seg_join [[(a_r_, .inl (g 0, n_r_, .inl r__150))], [(a_text, .inr (1, [.ref v_223, .int 0, .int 0, .int k_226]))], [(v_223, .inl (g 2, c_224, .inl f_225))], [(a_d_, .inl (g 0, n_d_, .inl d_))]] [[(a_q_229, .inr (1, [.ref v_239, .int 0, .int 0, .int k_242]))], [(v_239, .inl (g 2, c_240, .inl f_241))]] [[(a_r_, .inl (g 0, n_r_, .inl r__150))], [(a_text, .inr (1, [.ref v_223, .int 0, .int 0, .int k_226]))], [(v_223, .inl (g 2, c_224, .inl f_225))], [(a_d_, .inl (g 0, n_d_, .inl d_))], [(a_q_229, .inr (1, [.ref v_239, .int 0, .int 0, .int k_242]))], [(v_239, .inl (g 2, c_240, .inl f_241))]] 6 [0, 1, 2, 3, 4, 5] rfl rfl (by decide) hP hD
              have hP : va_P (dC, dI) vwCl [(a_r_, .inl (g 0, n_r_, .inl r__150)), (a_text, .inr (1, [.ref v_223, .int 0, .int 0, .int k_226])), (v_223, .inl (g 2, c_224, .inl f_225)), (a_d_, .inl (g 0, n_d_, .inl d_)), (a_q_229, .inr (1, [.ref v_239, .int 0, .int 0, .int k_242])), (v_239, .inl (g 2, c_240, .inl f_241))] H_238 := hP
              have hD : va_D A [(a_r_, .inl (g 0, n_r_, .inl r__150)), (a_text, .inr (1, [.ref v_223, .int 0, .int 0, .int k_226])), (v_223, .inl (g 2, c_224, .inl f_225)), (a_d_, .inl (g 0, n_d_, .inl d_)), (a_q_229, .inr (1, [.ref v_239, .int 0, .int 0, .int k_242])), (v_239, .inl (g 2, c_240, .inl f_241))] := hD
              refine W.widen (k := 10) (n := 18004) (by omega) (by omega) ?_
              refine lv_aload_n hx hb dL_tells_146 rfl (lv_at hl 2 rfl) ?_
              refine lv_bipush (v := 6) hx hb dL_tells_147 (by decide) ?_
              refine va_iald hx hb hK hP 3 0 rfl rfl hw.1 dL_tells_149 ?_
              have hw := hw.2
              refine lv_topi (fun x_243 ex_243 => ?_)
              have hw := hw x_243 ex_243
              obtain ⟨hPs, hDs⟩ := seg_call (segs := [[(a_r_, .inl (g 0, n_r_, .inl r__150))], [(a_text, .inr (1, [.ref v_223, .int 0, .int 0, .int k_226]))], [(v_223, .inl (g 2, c_224, .inl f_225))], [(a_d_, .inl (g 0, n_d_, .inl d_))], [(a_q_229, .inr (1, [.ref v_239, .int 0, .int 0, .int k_242]))], [(v_239, .inl (g 2, c_240, .inl f_241))]]) [[(a_r_, .inl (g 0, n_r_, .inl r__150))], [(a_text, .inr (1, [.ref v_223, .int 0, .int 0, .int k_226]))], [(v_223, .inl (g 2, c_224, .inl f_225))], [(a_d_, .inl (g 0, n_d_, .inl d_))]] [[(a_q_229, .inr (1, [.ref v_239, .int 0, .int 0, .int k_242]))], [(v_239, .inl (g 2, c_240, .inl f_241))]] 6 [0, 1, 2, 3, 4, 5] rfl rfl (by decide) hP hD
              have hPc : va_P (dC, dI) vwCl [(a_q_229, .inr (1, [.ref v_239, .int 0, .int 0, .int k_242])), (v_239, .inl (g 2, c_240, .inl f_241))] H_238 := P_r hPs
              have hDc : va_D A [(a_q_229, .inr (1, [.ref v_239, .int 0, .int 0, .int k_242])), (v_239, .inl (g 2, c_240, .inl f_241))] := D_r hDs
              have hFc : ∀ q, va_A [(a_q_229, .inr (1, [.ref v_239, .int 0, .int 0, .int k_242])), (v_239, .inl (g 2, c_240, .inl f_241))] H_238.size q → A q := A_all hDc hA hS.1
              refine va_callq (va_runV (As := [.int x_243]) (rest := [.ref a_text]) ⟨hx, hb, hml, hown, hts⟩ (c_J4_append_bf812 l dC dI g (a_this_ := a_q_229) (v_this_ := v_239) (c_this_ := c_240) (f_this_ := f_241) (k_this_ := k_242) (i_ := x_243) (hw := hw) (sz := H_238.size)) (cwV 1 hts (gqV aw_7_21 aw_7_22 aw_7_23 aw_1_26 aw_7_24) rfl rfl rfl (by decide +kernel) ⟨Nat.le_of_ble_eq_true rfl, Nat.le_of_ble_eq_true rfl⟩) ⟨PG_blind, va_recv hK hP (ci := 1) (q0 := 4) rfl rfl, PG_call hK hG hS hPc hDc hFc⟩ rfl rfl hl.1 rfl (lv_room (Nat.le_of_ble_eq_true rfl)) dL_tells_150 ⟨by rw [hrc]; omega, by rw [hrs]; omega⟩) hS (fun q _ h => hFc q h) hFc (fun r_245 u_245 t_245 H_245 L_245 ht_245 hvm_245 hw_245 hB_245 hz_245 hk_245 hS => ?_)
              obtain ⟨v_246, c_247, f_248, k_249, u_245⟩ := u_245
              obtain ⟨rfl, hw⟩ := hw_245
              rw [ht_245] at hB_245
              obtain ⟨hP1, hD1⟩ := hB_245
              obtain ⟨hP, hD⟩ := join_r hPs hDs hk_245 hFc hP1 hD1
              obtain ⟨hP, hD⟩ := seg_join [[(a_r_, .inl (g 0, n_r_, .inl r__150))], [(a_text, .inr (1, [.ref v_223, .int 0, .int 0, .int k_226]))], [(v_223, .inl (g 2, c_224, .inl f_225))], [(a_d_, .inl (g 0, n_d_, .inl d_))]] [[(a_q_229, .inr (1, [.ref v_246, .int 0, .int 0, .int k_249]))], [(v_246, .inl (g 2, c_247, .inl f_248))]] [[(a_r_, .inl (g 0, n_r_, .inl r__150))], [(a_text, .inr (1, [.ref v_223, .int 0, .int 0, .int k_226]))], [(v_223, .inl (g 2, c_224, .inl f_225))], [(a_d_, .inl (g 0, n_d_, .inl d_))], [(a_q_229, .inr (1, [.ref v_246, .int 0, .int 0, .int k_249]))], [(v_246, .inl (g 2, c_247, .inl f_248))]] 6 [0, 1, 2, 3, 4, 5] rfl rfl (by decide) hP hD
              have hP : va_P (dC, dI) vwCl [(a_r_, .inl (g 0, n_r_, .inl r__150)), (a_text, .inr (1, [.ref v_223, .int 0, .int 0, .int k_226])), (v_223, .inl (g 2, c_224, .inl f_225)), (a_d_, .inl (g 0, n_d_, .inl d_)), (a_q_229, .inr (1, [.ref v_246, .int 0, .int 0, .int k_249])), (v_246, .inl (g 2, c_247, .inl f_248))] H_245 := hP
              have hD : va_D A [(a_r_, .inl (g 0, n_r_, .inl r__150)), (a_text, .inr (1, [.ref v_223, .int 0, .int 0, .int k_226])), (v_223, .inl (g 2, c_224, .inl f_225)), (a_d_, .inl (g 0, n_d_, .inl d_)), (a_q_229, .inr (1, [.ref v_246, .int 0, .int 0, .int k_249])), (v_246, .inl (g 2, c_247, .inl f_248))] := hD
              refine W.widen (k := 11) (n := 20004) (by omega) (by omega) ?_
              obtain ⟨hPs, hDs⟩ := seg_call (segs := [[(a_r_, .inl (g 0, n_r_, .inl r__150))], [(a_text, .inr (1, [.ref v_223, .int 0, .int 0, .int k_226]))], [(v_223, .inl (g 2, c_224, .inl f_225))], [(a_d_, .inl (g 0, n_d_, .inl d_))], [(a_q_229, .inr (1, [.ref v_246, .int 0, .int 0, .int k_249]))], [(v_246, .inl (g 2, c_247, .inl f_248))]]) [[(a_r_, .inl (g 0, n_r_, .inl r__150))], [(a_text, .inr (1, [.ref v_223, .int 0, .int 0, .int k_226]))], [(v_223, .inl (g 2, c_224, .inl f_225))], [(a_d_, .inl (g 0, n_d_, .inl d_))]] [[(a_q_229, .inr (1, [.ref v_246, .int 0, .int 0, .int k_249]))], [(v_246, .inl (g 2, c_247, .inl f_248))]] 6 [0, 1, 2, 3, 4, 5] rfl rfl (by decide) hP hD
              have hPc : va_P (dC, dI) vwCl [(a_q_229, .inr (1, [.ref v_246, .int 0, .int 0, .int k_249])), (v_246, .inl (g 2, c_247, .inl f_248))] H_245 := P_r hPs
              have hDc : va_D A [(a_q_229, .inr (1, [.ref v_246, .int 0, .int 0, .int k_249])), (v_246, .inl (g 2, c_247, .inl f_248))] := D_r hDs
              have hFc : ∀ q, va_A [(a_q_229, .inr (1, [.ref v_246, .int 0, .int 0, .int k_249])), (v_246, .inl (g 2, c_247, .inl f_248))] H_245.size q → A q := A_all hDc hA hS.1
              refine va_callq (va_runV (As := []) (rest := [.ref a_text]) ⟨hx, hb, hml, hown, hts⟩ (c_J4_toString_0e30d l dC dI g (a_this_ := a_q_229) (v_this_ := v_246) (c_this_ := c_247) (f_this_ := f_248) (k_this_ := k_249) (hw := hw) (sz := H_245.size)) (cwV 0 hts (gqV aw_7_60 aw_7_61 aw_7_62 aw_1_26 aw_7_63) rfl rfl rfl (by decide +kernel) ⟨Nat.le_of_ble_eq_true rfl, Nat.le_of_ble_eq_true rfl⟩) ⟨PG_blind, va_recv hK hP (ci := 1) (q0 := 4) rfl rfl, PG_call hK hG hS hPc hDc hFc⟩ rfl rfl hl.1 rfl (lv_room (Nat.le_of_ble_eq_true rfl)) dL_tells_153 ⟨by rw [hrc]; omega, by rw [hrs]; omega⟩) hS (fun q _ h => hFc q h) hFc (fun r_251 u_251 t_251 H_251 L_251 ht_251 hvm_251 hw_251 hB_251 hz_251 hk_251 hS => ?_)
              obtain ⟨a_q_252, v_253, n_254, f_255, u_251⟩ := u_251
              obtain ⟨rfl, hw⟩ := hw_251
              rw [ht_251] at hB_251
              obtain ⟨hP1, hD1⟩ := hB_251
              obtain ⟨hP, hD⟩ := join_r hPs hDs hk_251 hFc hP1 hD1
              obtain ⟨hP, hD⟩ := seg_join [[(a_r_, .inl (g 0, n_r_, .inl r__150))], [(a_text, .inr (1, [.ref v_223, .int 0, .int 0, .int k_226]))], [(v_223, .inl (g 2, c_224, .inl f_225))], [(a_d_, .inl (g 0, n_d_, .inl d_))]] [[(a_q_229, .inr (1, [.ref v_246, .int 0, .int 0, .int k_249]))], [(v_246, .inl (g 2, c_247, .inl f_248))], [(a_q_252, .inr (0, [.ref v_253, .int 0, .int 0, .int 0]))], [(v_253, .inl (g 2, n_254, .inl f_255))]] [[(a_r_, .inl (g 0, n_r_, .inl r__150))], [(a_text, .inr (1, [.ref v_223, .int 0, .int 0, .int k_226]))], [(v_223, .inl (g 2, c_224, .inl f_225))], [(a_d_, .inl (g 0, n_d_, .inl d_))], [(a_q_229, .inr (1, [.ref v_246, .int 0, .int 0, .int k_249]))], [(v_246, .inl (g 2, c_247, .inl f_248))], [(a_q_252, .inr (0, [.ref v_253, .int 0, .int 0, .int 0]))], [(v_253, .inl (g 2, n_254, .inl f_255))]] 8 [0, 1, 2, 3, 4, 5, 6, 7] rfl rfl (by decide) hP hD
              have hP : va_P (dC, dI) vwCl [(a_r_, .inl (g 0, n_r_, .inl r__150)), (a_text, .inr (1, [.ref v_223, .int 0, .int 0, .int k_226])), (v_223, .inl (g 2, c_224, .inl f_225)), (a_d_, .inl (g 0, n_d_, .inl d_)), (a_q_229, .inr (1, [.ref v_246, .int 0, .int 0, .int k_249])), (v_246, .inl (g 2, c_247, .inl f_248)), (a_q_252, .inr (0, [.ref v_253, .int 0, .int 0, .int 0])), (v_253, .inl (g 2, n_254, .inl f_255))] H_251 := hP
              have hD : va_D A [(a_r_, .inl (g 0, n_r_, .inl r__150)), (a_text, .inr (1, [.ref v_223, .int 0, .int 0, .int k_226])), (v_223, .inl (g 2, c_224, .inl f_225)), (a_d_, .inl (g 0, n_d_, .inl d_)), (a_q_229, .inr (1, [.ref v_246, .int 0, .int 0, .int k_249])), (v_246, .inl (g 2, c_247, .inl f_248)), (a_q_252, .inr (0, [.ref v_253, .int 0, .int 0, .int 0])), (v_253, .inl (g 2, n_254, .inl f_255))] := hD
              refine W.widen (k := 13) (n := 22008) (by omega) (by omega) ?_
              obtain ⟨hPs, hDs⟩ := seg_call (segs := [[(a_r_, .inl (g 0, n_r_, .inl r__150))], [(a_text, .inr (1, [.ref v_223, .int 0, .int 0, .int k_226]))], [(v_223, .inl (g 2, c_224, .inl f_225))], [(a_d_, .inl (g 0, n_d_, .inl d_))], [(a_q_229, .inr (1, [.ref v_246, .int 0, .int 0, .int k_249]))], [(v_246, .inl (g 2, c_247, .inl f_248))], [(a_q_252, .inr (0, [.ref v_253, .int 0, .int 0, .int 0]))], [(v_253, .inl (g 2, n_254, .inl f_255))]]) [[(a_r_, .inl (g 0, n_r_, .inl r__150))], [(a_d_, .inl (g 0, n_d_, .inl d_))], [(a_q_229, .inr (1, [.ref v_246, .int 0, .int 0, .int k_249]))], [(v_246, .inl (g 2, c_247, .inl f_248))], [(a_q_252, .inr (0, [.ref v_253, .int 0, .int 0, .int 0]))], [(v_253, .inl (g 2, n_254, .inl f_255))]] [[(a_text, .inr (1, [.ref v_223, .int 0, .int 0, .int k_226]))], [(v_223, .inl (g 2, c_224, .inl f_225))]] 8 [0, 3, 4, 5, 6, 7, 1, 2] rfl rfl (by decide) hP hD
              have hPc : va_P (dC, dI) vwCl [(a_text, .inr (1, [.ref v_223, .int 0, .int 0, .int k_226])), (v_223, .inl (g 2, c_224, .inl f_225))] H_251 := P_r hPs
              have hDc : va_D A [(a_text, .inr (1, [.ref v_223, .int 0, .int 0, .int k_226])), (v_223, .inl (g 2, c_224, .inl f_225))] := D_r hDs
              have hFc : ∀ q, va_A [(a_text, .inr (1, [.ref v_223, .int 0, .int 0, .int k_226])), (v_223, .inl (g 2, c_224, .inl f_225))] H_251.size q → A q := A_all hDc hA hS.1
              refine va_callq (va_runV (As := [.ref a_q_252]) (rest := []) ⟨hx, hb, hml, hown, hts⟩ (c_J4_append_15ec4 l dC dI g (a_this_ := a_text) (v_this_ := v_223) (c_this_ := c_224) (f_this_ := f_225) (k_this_ := k_226) (a_s_ := a_q_252) (s__n := n_254) (s__f := f_255) (hw := hw) (sz := H_251.size)) (cwV 1 hts (gqV aw_7_20 aw_6_139 aw_6_140 aw_1_26 aw_6_141) rfl rfl rfl (by decide +kernel) ⟨Nat.le_of_ble_eq_true rfl, Nat.le_of_ble_eq_true rfl⟩) ⟨PX_blind (GSb_go n_254 f_255 a_q_252), va_recv hK hP (ci := 1) (q0 := 1) rfl rfl, PXd_call (GSb_go n_254 f_255 a_q_252) hK hG hS hPc hDc hFc (GSb_cells hts hiJ0 hK hPs hDs (k1 := 4) (k2 := 5) (ci := 0) rfl rfl rfl)⟩ rfl rfl hl.1 rfl (lv_room (Nat.le_of_ble_eq_true rfl)) dL_tells_156 ⟨by rw [hrc]; omega, by rw [hrs]; omega⟩) hS (fun q _ h => hFc q h) hFc (fun r_257 u_257 t_257 H_257 L_257 ht_257 hvm_257 hw_257 hB_257 hz_257 hk_257 hS => ?_)
              obtain ⟨v_258, c_259, f_260, k_261, u_257⟩ := u_257
              obtain ⟨rfl, hw⟩ := hw_257
              rw [ht_257] at hB_257
              obtain ⟨hP1, hD1⟩ := hB_257
              obtain ⟨hP, hD⟩ := join_r hPs hDs hk_257 hFc hP1 hD1
              obtain ⟨hP, hD⟩ := seg_join [[(a_r_, .inl (g 0, n_r_, .inl r__150))], [(a_d_, .inl (g 0, n_d_, .inl d_))], [(a_q_229, .inr (1, [.ref v_246, .int 0, .int 0, .int k_249]))], [(v_246, .inl (g 2, c_247, .inl f_248))], [(a_q_252, .inr (0, [.ref v_253, .int 0, .int 0, .int 0]))], [(v_253, .inl (g 2, n_254, .inl f_255))]] [[(a_text, .inr (1, [.ref v_258, .int 0, .int 0, .int k_261]))], [(v_258, .inl (g 2, c_259, .inl f_260))]] [[(a_r_, .inl (g 0, n_r_, .inl r__150))], [(a_text, .inr (1, [.ref v_258, .int 0, .int 0, .int k_261]))], [(v_258, .inl (g 2, c_259, .inl f_260))], [(a_d_, .inl (g 0, n_d_, .inl d_))], [(a_q_229, .inr (1, [.ref v_246, .int 0, .int 0, .int k_249]))], [(v_246, .inl (g 2, c_247, .inl f_248))], [(a_q_252, .inr (0, [.ref v_253, .int 0, .int 0, .int 0]))], [(v_253, .inl (g 2, n_254, .inl f_255))]] 8 [0, 6, 7, 1, 2, 3, 4, 5] rfl rfl (by decide) hP hD
              have hP : va_P (dC, dI) vwCl [(a_r_, .inl (g 0, n_r_, .inl r__150)), (a_text, .inr (1, [.ref v_258, .int 0, .int 0, .int k_261])), (v_258, .inl (g 2, c_259, .inl f_260)), (a_d_, .inl (g 0, n_d_, .inl d_)), (a_q_229, .inr (1, [.ref v_246, .int 0, .int 0, .int k_249])), (v_246, .inl (g 2, c_247, .inl f_248)), (a_q_252, .inr (0, [.ref v_253, .int 0, .int 0, .int 0])), (v_253, .inl (g 2, n_254, .inl f_255))] H_257 := hP
              have hD : va_D A [(a_r_, .inl (g 0, n_r_, .inl r__150)), (a_text, .inr (1, [.ref v_258, .int 0, .int 0, .int k_261])), (v_258, .inl (g 2, c_259, .inl f_260)), (a_d_, .inl (g 0, n_d_, .inl d_)), (a_q_229, .inr (1, [.ref v_246, .int 0, .int 0, .int k_249])), (v_246, .inl (g 2, c_247, .inl f_248)), (a_q_252, .inr (0, [.ref v_253, .int 0, .int 0, .int 0])), (v_253, .inl (g 2, n_254, .inl f_255))] := hD
              refine W.widen (k := 14) (n := 24008) (by omega) (by omega) ?_
              refine lv_pop hx hb dL_tells_159 rfl ?_
              obtain ⟨hP, hD⟩ := seg_sub (segs := [[(a_r_, .inl (g 0, n_r_, .inl r__150))], [(a_text, .inr (1, [.ref v_258, .int 0, .int 0, .int k_261]))], [(v_258, .inl (g 2, c_259, .inl f_260))], [(a_d_, .inl (g 0, n_d_, .inl d_))], [(a_q_229, .inr (1, [.ref v_246, .int 0, .int 0, .int k_249]))], [(v_246, .inl (g 2, c_247, .inl f_248))], [(a_q_252, .inr (0, [.ref v_253, .int 0, .int 0, .int 0]))], [(v_253, .inl (g 2, n_254, .inl f_255))]]) [[(a_r_, .inl (g 0, n_r_, .inl r__150))], [(a_text, .inr (1, [.ref v_258, .int 0, .int 0, .int k_261]))], [(v_258, .inl (g 2, c_259, .inl f_260))], [(a_d_, .inl (g 0, n_d_, .inl d_))]] [[(a_q_229, .inr (1, [.ref v_246, .int 0, .int 0, .int k_249]))], [(v_246, .inl (g 2, c_247, .inl f_248))], [(a_q_252, .inr (0, [.ref v_253, .int 0, .int 0, .int 0]))], [(v_253, .inl (g 2, n_254, .inl f_255))]] 8 [0, 1, 2, 3, 4, 5, 6, 7] rfl rfl (by decide) hP hD
              refine W.widen (k := 14) (n := 24008) (by omega) (by omega) ?_
              exact JN160 c_259 f_260 k_261 v_258 _ _ hw hP hD hS _ (lv_sub hl [0, 1, 2] rfl)
            · have hw := hw.1 c_228
              obtain ⟨as_19, hR_19, hT_19⟩ := GSb_of (sx_19 hG)
              refine va_ldcS hx hb hown hR_19 dL_tells_129 ?_
              refine lv_goto (tgt := 156) hx hb dL_tells_131 (by decide) ?_
              obtain ⟨hPs, hDs⟩ := seg_call (segs := [[(a_r_, .inl (g 0, n_r_, .inl r__150))], [(a_text, .inr (1, [.ref v_223, .int 0, .int 0, .int k_226]))], [(v_223, .inl (g 2, c_224, .inl f_225))], [(a_d_, .inl (g 0, n_d_, .inl d_))]]) [[(a_r_, .inl (g 0, n_r_, .inl r__150))], [(a_d_, .inl (g 0, n_d_, .inl d_))]] [[(a_text, .inr (1, [.ref v_223, .int 0, .int 0, .int k_226]))], [(v_223, .inl (g 2, c_224, .inl f_225))]] 4 [0, 3, 1, 2] rfl rfl (by decide) hP hD
              have hPc : va_P (dC, dI) vwCl [(a_text, .inr (1, [.ref v_223, .int 0, .int 0, .int k_226])), (v_223, .inl (g 2, c_224, .inl f_225))] H_222 := P_r hPs
              have hDc : va_D A [(a_text, .inr (1, [.ref v_223, .int 0, .int 0, .int k_226])), (v_223, .inl (g 2, c_224, .inl f_225))] := D_r hDs
              have hFc : ∀ q, va_A [(a_text, .inr (1, [.ref v_223, .int 0, .int 0, .int k_226])), (v_223, .inl (g 2, c_224, .inl f_225))] H_222.size q → A q := A_all hDc hA hS.1
              refine va_callq (va_runV (As := [.ref as_19]) (rest := []) ⟨hx, hb, hml, hown, hts⟩ (c_J4_append_15ec4 l dC dI g (a_this_ := a_text) (v_this_ := v_223) (c_this_ := c_224) (f_this_ := f_225) (k_this_ := k_226) (a_s_ := as_19) (s__n := (tn 19)) (s__f := (tb 19)) (hw := hw) (sz := H_222.size)) (cwV 1 hts (gqV aw_7_20 aw_6_139 aw_6_140 aw_1_26 aw_6_141) rfl rfl rfl (by decide +kernel) ⟨Nat.le_of_ble_eq_true rfl, Nat.le_of_ble_eq_true rfl⟩) ⟨PX_blind (GSb_go (tn 19) (tb 19) as_19), va_recv hK hP (ci := 1) (q0 := 1) rfl rfl, PX_call (GSb_go (tn 19) (tb 19) as_19) hK hG hS hPc hDc hFc hT_19⟩ rfl rfl hl.1 rfl (lv_room (Nat.le_of_ble_eq_true rfl)) dL_tells_156 ⟨by rw [hrc]; omega, by rw [hrs]; omega⟩) hS (fun q _ h => hFc q h) hFc (fun r_263 u_263 t_263 H_263 L_263 ht_263 hvm_263 hw_263 hB_263 hz_263 hk_263 hS => ?_)
              obtain ⟨v_264, c_265, f_266, k_267, u_263⟩ := u_263
              obtain ⟨rfl, hw⟩ := hw_263
              rw [ht_263] at hB_263
              obtain ⟨hP1, hD1⟩ := hB_263
              obtain ⟨hP, hD⟩ := join_r hPs hDs hk_263 hFc hP1 hD1
              obtain ⟨hP, hD⟩ := seg_join [[(a_r_, .inl (g 0, n_r_, .inl r__150))], [(a_d_, .inl (g 0, n_d_, .inl d_))]] [[(a_text, .inr (1, [.ref v_264, .int 0, .int 0, .int k_267]))], [(v_264, .inl (g 2, c_265, .inl f_266))]] [[(a_r_, .inl (g 0, n_r_, .inl r__150))], [(a_text, .inr (1, [.ref v_264, .int 0, .int 0, .int k_267]))], [(v_264, .inl (g 2, c_265, .inl f_266))], [(a_d_, .inl (g 0, n_d_, .inl d_))]] 4 [0, 2, 3, 1] rfl rfl (by decide) hP hD
              have hP : va_P (dC, dI) vwCl [(a_r_, .inl (g 0, n_r_, .inl r__150)), (a_text, .inr (1, [.ref v_264, .int 0, .int 0, .int k_267])), (v_264, .inl (g 2, c_265, .inl f_266)), (a_d_, .inl (g 0, n_d_, .inl d_))] H_263 := hP
              have hD : va_D A [(a_r_, .inl (g 0, n_r_, .inl r__150)), (a_text, .inr (1, [.ref v_264, .int 0, .int 0, .int k_267])), (v_264, .inl (g 2, c_265, .inl f_266)), (a_d_, .inl (g 0, n_d_, .inl d_))] := hD
              refine W.widen (k := 8) (n := 16000) (by omega) (by omega) ?_
              refine lv_pop hx hb dL_tells_159 rfl ?_
              refine W.widen (k := 14) (n := 24008) (by omega) (by omega) ?_
              exact JN160 c_265 f_266 k_267 v_264 _ _ hw hP hD hS _ (lv_sub hl [0, 1, 2] rfl)
          refine lv_if_ne (tgt := 105) hx hb dL_tells_97 (by decide) (fun c_268 => ?_) (fun c_268 => ?_)
          · have hw := hw.2 c_268
            refine lv_aload_n hx hb dL_tells_105 rfl (lv_at hl 2 rfl) ?_
            refine lv_iconst (v := 5) hx hb dL_tells_106 (by decide) ?_
            refine va_iald hx hb hK hP 3 0 rfl rfl hw.1 dL_tells_107 ?_
            have hw := hw.2
            refine lv_topi (fun x_269 ex_269 => ?_)
            have hw := hw x_269 ex_269
            refine lv_iconst (v := 1) hx hb dL_tells_108 (by decide) ?_
            refine lv_icmp_ne (tgt := 117) hx hb dL_tells_109 (by decide) (fun c_270 => ?_) (fun c_270 => ?_)
            · have hw := hw.2 c_270
              obtain ⟨as_28, hR_28, hT_28⟩ := GSb_of (sx_28 hG)
              refine va_ldcS hx hb hown hR_28 dL_tells_117 ?_
              refine W.widen (k := 6) (n := 12000) (by omega) (by omega) ?_
              exact JN119 (tn 27) (tb 27) as_28 hT_28 _ _ hw hP hD hS _ (lv_sub hl [0, 1, 2] rfl)
            · have hw := hw.1 c_270
              obtain ⟨as_27, hR_27, hT_27⟩ := GSb_of (sx_27 hG)
              refine va_ldcS hx hb hown hR_27 dL_tells_112 ?_
              refine lv_goto (tgt := 119) hx hb dL_tells_114 (by decide) ?_
              refine W.widen (k := 6) (n := 12000) (by omega) (by omega) ?_
              exact JN119 (tn 26) (tb 26) as_27 hT_27 _ _ hw hP hD hS _ (lv_sub hl [0, 1, 2] rfl)
          · have hw := hw.1 c_268
            obtain ⟨as_26, hR_26, hT_26⟩ := GSb_of (sx_26 hG)
            refine va_ldcS hx hb hown hR_26 dL_tells_100 ?_
            refine lv_goto (tgt := 119) hx hb dL_tells_102 (by decide) ?_
            refine W.widen (k := 6) (n := 12000) (by omega) (by omega) ?_
            exact JN119 (tn 25) (tb 25) as_26 hT_26 _ _ hw hP hD hS _ (lv_sub hl [0, 1, 2] rfl)
      refine lv_icmp_eq (tgt := 86) hx hb dL_tells_47 (by decide) (fun c_271 => ?_) (fun c_271 => ?_)
      · have hw := hw.1 c_271
        refine W.widen (k := 6) (n := 12000) (by omega) (by omega) ?_
        exact JN86 r__132 c_146 f_147 k_148 v_145 _ _ hw hP hD hS _ (lv_sub hl [0, 1, 2] rfl)
      · have hw := hw.2 c_271
        refine lv_aload_n hx hb dL_tells_50 rfl (lv_at hl 1 rfl) ?_
        refine lv_aload_n hx hb dL_tells_51 rfl (lv_at hl 0 rfl) ?_
        refine lv_iconst (v := 3) hx hb dL_tells_52 (by decide) ?_
        obtain ⟨hPs, hDs⟩ := seg_call (segs := [[(a_r_, .inl (g 0, n_r_, .inl r__132))], [(a_text, .inr (1, [.ref v_145, .int 0, .int 0, .int k_148]))], [(v_145, .inl (g 2, c_146, .inl f_147))], [(a_d_, .inl (g 0, n_d_, .inl d_))]]) [[(a_text, .inr (1, [.ref v_145, .int 0, .int 0, .int k_148]))], [(v_145, .inl (g 2, c_146, .inl f_147))], [(a_d_, .inl (g 0, n_d_, .inl d_))]] [[(a_r_, .inl (g 0, n_r_, .inl r__132))]] 4 [1, 2, 3, 0] rfl rfl (by decide) hP hD
        have hPc : va_P (dC, dI) vwCl [(a_r_, .inl (g 0, n_r_, .inl r__132))] H_144 := P_r hPs
        have hDc : va_D A [(a_r_, .inl (g 0, n_r_, .inl r__132))] := D_r hDs
        have hFc : ∀ q, va_A [(a_r_, .inl (g 0, n_r_, .inl r__132))] H_144.size q → A q := A_all hDc hA hS.1
        refine va_calli (va_runS (As := [.ref a_r_, .int 3]) (rest := [.ref a_text]) ⟨hx, hb, hml, hown, hts⟩ (c_L_draw l hlf dC dI g (a_r_ := a_r_) (n_r_ := n_r_) (r_ := r__132) (many := 3) (hw := hw) (sz := H_144.size)) (va_cwS 2 hts (gqS aw_2_215 aw_2_216 aw_1_0 aw_2_217) rfl rfl rfl (by decide +kernel) ⟨Nat.le_of_ble_eq_true rfl, Nat.le_of_ble_eq_true rfl⟩) ⟨PG_blind, PG_call hK hG hS hPc hDc hFc⟩ rfl rfl hl.1 rfl (lv_room (Nat.le_of_ble_eq_true rfl)) dL_tells_53 ⟨by rw [hrc]; omega, by rw [hrs]; omega⟩) hS (fun q _ h => hFc q h) hFc (fun r_272 u_272 t_272 H_272 L_272 ht_272 hvm_272 hw_272 hB_272 hz_272 hk_272 hS => ?_)
        obtain ⟨r__273, u_272⟩ := u_272
        have hw := hw_272
        rw [ht_272] at hB_272
        obtain ⟨hP1, hD1⟩ := hB_272
        obtain ⟨hP, hD⟩ := join_r hPs hDs hk_272 hFc hP1 hD1
        obtain ⟨hP, hD⟩ := seg_join [[(a_text, .inr (1, [.ref v_145, .int 0, .int 0, .int k_148]))], [(v_145, .inl (g 2, c_146, .inl f_147))], [(a_d_, .inl (g 0, n_d_, .inl d_))]] [[(a_r_, .inl (g 0, n_r_, .inl r__273))]] [[(a_r_, .inl (g 0, n_r_, .inl r__273))], [(a_text, .inr (1, [.ref v_145, .int 0, .int 0, .int k_148]))], [(v_145, .inl (g 2, c_146, .inl f_147))], [(a_d_, .inl (g 0, n_d_, .inl d_))]] 4 [3, 0, 1, 2] rfl rfl (by decide) hP hD
        have hP : va_P (dC, dI) vwCl [(a_r_, .inl (g 0, n_r_, .inl r__273)), (a_text, .inr (1, [.ref v_145, .int 0, .int 0, .int k_148])), (v_145, .inl (g 2, c_146, .inl f_147)), (a_d_, .inl (g 0, n_d_, .inl d_))] H_272 := hP
        have hD : va_D A [(a_r_, .inl (g 0, n_r_, .inl r__273)), (a_text, .inr (1, [.ref v_145, .int 0, .int 0, .int k_148])), (v_145, .inl (g 2, c_146, .inl f_147)), (a_d_, .inl (g 0, n_d_, .inl d_))] := hD
        refine W.widen (k := 4) (n := 8000) (by omega) (by omega) ?_
        have JN66 : ∀ (sn_275 : Nat) (sf_276 : Nat → Int32) (as_274 : Nat) (has_274 : GSb sn_275 sf_276 as_274 A s) (H : Heap) (locs : List Loc), (wj_L_tells_66 n_r_ n_d_ d_ Q c_146 f_147 k_148 r__273) sn_275 sf_276 → va_P (dC, dI) vwCl [(a_r_, .inl (g 0, n_r_, .inl r__273)), (a_text, .inr (1, [.ref v_145, .int 0, .int 0, .int k_148])), (v_145, .inl (g 2, c_146, .inl f_147)), (a_d_, .inl (g 0, n_d_, .inl d_))] H → va_D A [(a_r_, .inl (g 0, n_r_, .inl r__273)), (a_text, .inr (1, [.ref v_145, .int 0, .int 0, .int k_148])), (v_145, .inl (g 2, c_146, .inl f_147)), (a_d_, .inl (g 0, n_d_, .inl d_))] → va_S A s.heap H locs → ∀ (ls : Array Slot), lv_has ls 3 [(0, .ref a_r_), (1, .ref a_text), (2, .ref a_d_)] → W p l e (headSpec wqL_tells ({ frames := 6, cells := 23, slots := 38016, locals := 171 })).room s m ([.ref a_r_, .ref a_text, .ref a_d_] : List Value).toArray below meth c H locs 4 8000 QM (F0 m 66 ls [.ref as_274, .ref a_text]) := by
          intro sn_275 sf_276 as_274 has_274 H locs hw hP hD hS ls hl
          obtain ⟨hPs, hDs⟩ := seg_call (segs := [[(a_r_, .inl (g 0, n_r_, .inl r__273))], [(a_text, .inr (1, [.ref v_145, .int 0, .int 0, .int k_148]))], [(v_145, .inl (g 2, c_146, .inl f_147))], [(a_d_, .inl (g 0, n_d_, .inl d_))]]) [[(a_r_, .inl (g 0, n_r_, .inl r__273))], [(a_d_, .inl (g 0, n_d_, .inl d_))]] [[(a_text, .inr (1, [.ref v_145, .int 0, .int 0, .int k_148]))], [(v_145, .inl (g 2, c_146, .inl f_147))]] 4 [0, 3, 1, 2] rfl rfl (by decide) hP hD
          have hPc : va_P (dC, dI) vwCl [(a_text, .inr (1, [.ref v_145, .int 0, .int 0, .int k_148])), (v_145, .inl (g 2, c_146, .inl f_147))] H := P_r hPs
          have hDc : va_D A [(a_text, .inr (1, [.ref v_145, .int 0, .int 0, .int k_148])), (v_145, .inl (g 2, c_146, .inl f_147))] := D_r hDs
          have hFc : ∀ q, va_A [(a_text, .inr (1, [.ref v_145, .int 0, .int 0, .int k_148])), (v_145, .inl (g 2, c_146, .inl f_147))] H.size q → A q := A_all hDc hA hS.1
          refine va_callq (va_runV (As := [.ref as_274]) (rest := []) ⟨hx, hb, hml, hown, hts⟩ (c_J4_append_15ec4 l dC dI g (a_this_ := a_text) (v_this_ := v_145) (c_this_ := c_146) (f_this_ := f_147) (k_this_ := k_148) (a_s_ := as_274) (s__n := sn_275) (s__f := sf_276) (hw := hw) (sz := H.size)) (cwV 1 hts (gqV aw_7_20 aw_6_139 aw_6_140 aw_1_26 aw_6_141) rfl rfl rfl (by decide +kernel) ⟨Nat.le_of_ble_eq_true rfl, Nat.le_of_ble_eq_true rfl⟩) ⟨PX_blind (GSb_go sn_275 sf_276 as_274), va_recv hK hP (ci := 1) (q0 := 1) rfl rfl, PX_call (GSb_go sn_275 sf_276 as_274) hK hG hS hPc hDc hFc has_274⟩ rfl rfl hl.1 rfl (lv_room (Nat.le_of_ble_eq_true rfl)) dL_tells_66 ⟨by rw [hrc]; omega, by rw [hrs]; omega⟩) hS (fun q _ h => hFc q h) hFc (fun r_278 u_278 t_278 H_278 L_278 ht_278 hvm_278 hw_278 hB_278 hz_278 hk_278 hS => ?_)
          obtain ⟨v_279, c_280, f_281, k_282, u_278⟩ := u_278
          obtain ⟨rfl, hw⟩ := hw_278
          rw [ht_278] at hB_278
          obtain ⟨hP1, hD1⟩ := hB_278
          obtain ⟨hP, hD⟩ := join_r hPs hDs hk_278 hFc hP1 hD1
          obtain ⟨hP, hD⟩ := seg_join [[(a_r_, .inl (g 0, n_r_, .inl r__273))], [(a_d_, .inl (g 0, n_d_, .inl d_))]] [[(a_text, .inr (1, [.ref v_279, .int 0, .int 0, .int k_282]))], [(v_279, .inl (g 2, c_280, .inl f_281))]] [[(a_r_, .inl (g 0, n_r_, .inl r__273))], [(a_text, .inr (1, [.ref v_279, .int 0, .int 0, .int k_282]))], [(v_279, .inl (g 2, c_280, .inl f_281))], [(a_d_, .inl (g 0, n_d_, .inl d_))]] 4 [0, 2, 3, 1] rfl rfl (by decide) hP hD
          have hP : va_P (dC, dI) vwCl [(a_r_, .inl (g 0, n_r_, .inl r__273)), (a_text, .inr (1, [.ref v_279, .int 0, .int 0, .int k_282])), (v_279, .inl (g 2, c_280, .inl f_281)), (a_d_, .inl (g 0, n_d_, .inl d_))] H_278 := hP
          have hD : va_D A [(a_r_, .inl (g 0, n_r_, .inl r__273)), (a_text, .inr (1, [.ref v_279, .int 0, .int 0, .int k_282])), (v_279, .inl (g 2, c_280, .inl f_281)), (a_d_, .inl (g 0, n_d_, .inl d_))] := hD
          refine W.widen (k := 5) (n := 10000) (by omega) (by omega) ?_
          refine lv_aload_n hx hb dL_tells_69 rfl (lv_at hl 2 rfl) ?_
          refine lv_iconst (v := 4) hx hb dL_tells_70 (by decide) ?_
          refine va_iald hx hb hK hP 3 0 rfl rfl hw.1 dL_tells_71 ?_
          have hw := hw.2
          refine lv_topi (fun x_283 ex_283 => ?_)
          have hw := hw x_283 ex_283
          have JN82 : ∀ (sn_285 : Nat) (sf_286 : Nat → Int32) (as_284 : Nat) (has_284 : GSb sn_285 sf_286 as_284 A s) (H : Heap) (locs : List Loc), (wj_L_tells_82 n_r_ n_d_ d_ Q r__273 c_280 f_281 k_282) sn_285 sf_286 → va_P (dC, dI) vwCl [(a_r_, .inl (g 0, n_r_, .inl r__273)), (a_text, .inr (1, [.ref v_279, .int 0, .int 0, .int k_282])), (v_279, .inl (g 2, c_280, .inl f_281)), (a_d_, .inl (g 0, n_d_, .inl d_))] H → va_D A [(a_r_, .inl (g 0, n_r_, .inl r__273)), (a_text, .inr (1, [.ref v_279, .int 0, .int 0, .int k_282])), (v_279, .inl (g 2, c_280, .inl f_281)), (a_d_, .inl (g 0, n_d_, .inl d_))] → va_S A s.heap H locs → ∀ (ls : Array Slot), lv_has ls 3 [(0, .ref a_r_), (1, .ref a_text), (2, .ref a_d_)] → W p l e (headSpec wqL_tells ({ frames := 6, cells := 23, slots := 38016, locals := 171 })).room s m ([.ref a_r_, .ref a_text, .ref a_d_] : List Value).toArray below meth c H locs 5 10000 QM (F0 m 82 ls [.ref as_284, .ref a_text]) := by
            intro sn_285 sf_286 as_284 has_284 H locs hw hP hD hS ls hl
            obtain ⟨hPs, hDs⟩ := seg_call (segs := [[(a_r_, .inl (g 0, n_r_, .inl r__273))], [(a_text, .inr (1, [.ref v_279, .int 0, .int 0, .int k_282]))], [(v_279, .inl (g 2, c_280, .inl f_281))], [(a_d_, .inl (g 0, n_d_, .inl d_))]]) [[(a_r_, .inl (g 0, n_r_, .inl r__273))], [(a_d_, .inl (g 0, n_d_, .inl d_))]] [[(a_text, .inr (1, [.ref v_279, .int 0, .int 0, .int k_282]))], [(v_279, .inl (g 2, c_280, .inl f_281))]] 4 [0, 3, 1, 2] rfl rfl (by decide) hP hD
            have hPc : va_P (dC, dI) vwCl [(a_text, .inr (1, [.ref v_279, .int 0, .int 0, .int k_282])), (v_279, .inl (g 2, c_280, .inl f_281))] H := P_r hPs
            have hDc : va_D A [(a_text, .inr (1, [.ref v_279, .int 0, .int 0, .int k_282])), (v_279, .inl (g 2, c_280, .inl f_281))] := D_r hDs
            have hFc : ∀ q, va_A [(a_text, .inr (1, [.ref v_279, .int 0, .int 0, .int k_282])), (v_279, .inl (g 2, c_280, .inl f_281))] H.size q → A q := A_all hDc hA hS.1
            refine va_callq (va_runV (As := [.ref as_284]) (rest := []) ⟨hx, hb, hml, hown, hts⟩ (c_J4_append_15ec4 l dC dI g (a_this_ := a_text) (v_this_ := v_279) (c_this_ := c_280) (f_this_ := f_281) (k_this_ := k_282) (a_s_ := as_284) (s__n := sn_285) (s__f := sf_286) (hw := hw) (sz := H.size)) (cwV 1 hts (gqV aw_7_20 aw_6_139 aw_6_140 aw_1_26 aw_6_141) rfl rfl rfl (by decide +kernel) ⟨Nat.le_of_ble_eq_true rfl, Nat.le_of_ble_eq_true rfl⟩) ⟨PX_blind (GSb_go sn_285 sf_286 as_284), va_recv hK hP (ci := 1) (q0 := 1) rfl rfl, PX_call (GSb_go sn_285 sf_286 as_284) hK hG hS hPc hDc hFc has_284⟩ rfl rfl hl.1 rfl (lv_room (Nat.le_of_ble_eq_true rfl)) dL_tells_82 ⟨by rw [hrc]; omega, by rw [hrs]; omega⟩) hS (fun q _ h => hFc q h) hFc (fun r_288 u_288 t_288 H_288 L_288 ht_288 hvm_288 hw_288 hB_288 hz_288 hk_288 hS => ?_)
            obtain ⟨v_289, c_290, f_291, k_292, u_288⟩ := u_288
            obtain ⟨rfl, hw⟩ := hw_288
            rw [ht_288] at hB_288
            obtain ⟨hP1, hD1⟩ := hB_288
            obtain ⟨hP, hD⟩ := join_r hPs hDs hk_288 hFc hP1 hD1
            obtain ⟨hP, hD⟩ := seg_join [[(a_r_, .inl (g 0, n_r_, .inl r__273))], [(a_d_, .inl (g 0, n_d_, .inl d_))]] [[(a_text, .inr (1, [.ref v_289, .int 0, .int 0, .int k_292]))], [(v_289, .inl (g 2, c_290, .inl f_291))]] [[(a_r_, .inl (g 0, n_r_, .inl r__273))], [(a_text, .inr (1, [.ref v_289, .int 0, .int 0, .int k_292]))], [(v_289, .inl (g 2, c_290, .inl f_291))], [(a_d_, .inl (g 0, n_d_, .inl d_))]] 4 [0, 2, 3, 1] rfl rfl (by decide) hP hD
            have hP : va_P (dC, dI) vwCl [(a_r_, .inl (g 0, n_r_, .inl r__273)), (a_text, .inr (1, [.ref v_289, .int 0, .int 0, .int k_292])), (v_289, .inl (g 2, c_290, .inl f_291)), (a_d_, .inl (g 0, n_d_, .inl d_))] H_288 := hP
            have hD : va_D A [(a_r_, .inl (g 0, n_r_, .inl r__273)), (a_text, .inr (1, [.ref v_289, .int 0, .int 0, .int k_292])), (v_289, .inl (g 2, c_290, .inl f_291)), (a_d_, .inl (g 0, n_d_, .inl d_))] := hD
            refine W.widen (k := 6) (n := 12000) (by omega) (by omega) ?_
            refine lv_pop hx hb dL_tells_85 rfl ?_
            refine W.widen (k := 6) (n := 12000) (by omega) (by omega) ?_
            exact JN86 r__273 c_290 f_291 k_292 v_289 _ _ hw hP hD hS _ (lv_sub hl [0, 1, 2] rfl)
          refine lv_if_ne (tgt := 80) hx hb dL_tells_72 (by decide) (fun c_293 => ?_) (fun c_293 => ?_)
          · have hw := hw.2 c_293
            obtain ⟨as_25, hR_25, hT_25⟩ := GSb_of (sx_25 hG)
            refine va_ldcS hx hb hown hR_25 dL_tells_80 ?_
            refine W.widen (k := 5) (n := 10000) (by omega) (by omega) ?_
            exact JN82 (tn 24) (tb 24) as_25 hT_25 _ _ hw hP hD hS _ (lv_sub hl [0, 1, 2] rfl)
          · have hw := hw.1 c_293
            obtain ⟨as_24, hR_24, hT_24⟩ := GSb_of (sx_24 hG)
            refine va_ldcS hx hb hown hR_24 dL_tells_75 ?_
            refine lv_goto (tgt := 82) hx hb dL_tells_77 (by decide) ?_
            refine W.widen (k := 5) (n := 10000) (by omega) (by omega) ?_
            exact JN82 (tn 23) (tb 23) as_24 hT_24 _ _ hw hP hD hS _ (lv_sub hl [0, 1, 2] rfl)
        refine lv_if_ne (tgt := 64) hx hb dL_tells_56 (by decide) (fun c_294 => ?_) (fun c_294 => ?_)
        · have hw := hw.2 c_294
          obtain ⟨as_19, hR_19, hT_19⟩ := GSb_of (sx_19 hG)
          refine va_ldcS hx hb hown hR_19 dL_tells_64 ?_
          refine W.widen (k := 4) (n := 8000) (by omega) (by omega) ?_
          exact JN66 (tn 19) (tb 19) as_19 hT_19 _ _ hw hP hD hS _ (lv_sub hl [0, 1, 2] rfl)
        · have hw := hw.1 c_294
          obtain ⟨as_23, hR_23, hT_23⟩ := GSb_of (sx_23 hG)
          refine va_ldcS hx hb hown hR_23 dL_tells_59 ?_
          refine lv_goto (tgt := 66) hx hb dL_tells_61 (by decide) ?_
          refine W.widen (k := 4) (n := 8000) (by omega) (by omega) ?_
          exact JN66 (tn 22) (tb 22) as_23 hT_23 _ _ hw hP hD hS _ (lv_sub hl [0, 1, 2] rfl)
    refine lv_if_ne (tgt := 31) hx hb dL_tells_23 (by decide) (fun c_295 => ?_) (fun c_295 => ?_)
    · have hw := hw.2 c_295
      obtain ⟨as_22, hR_22, hT_22⟩ := GSb_of (sx_22 hG)
      refine va_ldcS hx hb hown hR_22 dL_tells_31 ?_
      refine W.widen (k := 2) (n := 4000) (by omega) (by omega) ?_
      exact JN33 (tn 21) (tb 21) as_22 hT_22 _ _ hw hP hD hS _ (lv_sub hl [0, 1, 2] rfl)
    · have hw := hw.1 c_295
      obtain ⟨as_21, hR_21, hT_21⟩ := GSb_of (sx_21 hG)
      refine va_ldcS hx hb hown hR_21 dL_tells_26 ?_
      refine lv_goto (tgt := 33) hx hb dL_tells_28 (by decide) ?_
      refine W.widen (k := 2) (n := 4000) (by omega) (by omega) ?_
      exact JN33 (tn 9) (tb 9) as_21 hT_21 _ _ hw hP hD hS _ (lv_sub hl [0, 1, 2] rfl)
