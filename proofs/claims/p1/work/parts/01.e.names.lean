set_option maxRecDepth 20000 in
theorem gX12_behind_X12_taken0 : GoodIn wsX12_behind (wsV RX12 86 RX12 yX12_taken0 wsX12_taken0) := goodIn_app (goodIn_of _ (by decide +kernel)) ggX12_behind_X12_taken0
set_option maxRecDepth 20000 in
theorem ggX12_behind_Jx4a65c_get_915e3 : GoodIn wsX12_behind wsJx4a65c_get_915e3 := goodIn_r _ [50, 46, 51, 52, 53, 54, 55, 56, 57, 58, 59, 60, 61, 3, 62, 13, 113, 114, 115] (by decide +kernel) (by decide +kernel)
set_option maxRecDepth 20000 in
theorem gX12_behind_Jx4a65c_get_915e3_f65Jx4a65c : GoodIn wsX12_behind (va_wsF RX12 65 RJx4a65c ⟨"java/util/List", "get", "(I)Ljava/lang/Object;"⟩ yJx4a65c_get_915e3 wsJx4a65c_get_915e3) := goodIn_app (goodIn_of _ (by decide +kernel)) ggX12_behind_Jx4a65c_get_915e3
set_option maxRecDepth 20000 in
theorem ggX12_behind_Jx4a65c_size_8abf5 : GoodIn wsX12_behind wsJx4a65c_size_8abf5 := goodIn_r _ [45, 46, 113, 114, 115] (by decide +kernel) (by decide +kernel)
set_option maxRecDepth 20000 in
theorem gX12_behind_Jx4a65c_size_8abf5_f54Jx4a65c : GoodIn wsX12_behind (va_wsF RX12 54 RJx4a65c ⟨"java/util/List", "size", "()I"⟩ yJx4a65c_size_8abf5 wsJx4a65c_size_8abf5) := goodIn_app (goodIn_of _ (by decide +kernel)) ggX12_behind_Jx4a65c_size_8abf5
set_option maxRecDepth 20000 in
theorem ggX12_behind_Jx4a65c_add_9ea2d : GoodIn wsX12_behind wsJx4a65c_add_9ea2d := goodIn_r _ [66, 67, 68, 13, 46, 69, 70, 71, 3, 72, 73, 74, 75, 76, 77, 78, 79, 80, 12, 81, 40, 37, 41, 82, 83, 84, 85, 86, 87, 88, 89, 90, 91, 92, 93, 94, 95, 96, 97, 98, 99, 100, 101, 102, 103, 104, 105, 36, 38, 106, 107, 108, 109, 113, 114, 115] (by decide +kernel) (by decide +kernel)
set_option maxRecDepth 20000 in
theorem gX12_behind_Jx4a65c_add_9ea2d_f44Jx4a65c : GoodIn wsX12_behind (va_wsF RX12 44 RJx4a65c ⟨"java/util/List", "add", "(Ljava/lang/Object;)Z"⟩ yJx4a65c_add_9ea2d wsJx4a65c_add_9ea2d) := goodIn_app (goodIn_of _ (by decide +kernel)) ggX12_behind_Jx4a65c_add_9ea2d
theorem dX12_behind_0 : decode cX12_behind 0 = .ok (.new 19, 3) := by decide +kernel
theorem dX12_behind_3 : decode cX12_behind 3 = .ok (.dup, 1) := by decide +kernel
theorem dX12_behind_4 : decode cX12_behind 4 = .ok (.invokespecial 21, 3) := by decide +kernel
theorem dX12_behind_7 : decode cX12_behind 7 = .ok (.astore_n 1, 1) := by decide +kernel
theorem dX12_behind_8 : decode cX12_behind 8 = .ok (.new 19, 3) := by decide +kernel
theorem dX12_behind_11 : decode cX12_behind 11 = .ok (.dup, 1) := by decide +kernel
theorem dX12_behind_12 : decode cX12_behind 12 = .ok (.invokespecial 21, 3) := by decide +kernel
theorem dX12_behind_15 : decode cX12_behind 15 = .ok (.astore_n 2, 1) := by decide +kernel
theorem dX12_behind_16 : decode cX12_behind 16 = .ok (.aload_n 0, 1) := by decide +kernel
theorem dX12_behind_17 : decode cX12_behind 17 = .ok (.getfield 15, 3) := by decide +kernel
theorem dX12_behind_20 : decode cX12_behind 20 = .ok (.iconst 3, 1) := by decide +kernel
theorem dX12_behind_21 : decode cX12_behind 21 = .ok (.iaload, 1) := by decide +kernel
theorem dX12_behind_22 : decode cX12_behind 22 = .ok (.iconst 1, 1) := by decide +kernel
theorem dX12_behind_23 : decode cX12_behind 23 = .ok (.if_icmp .ne 130, 3) := by decide +kernel
theorem dX12_behind_26 : decode cX12_behind 26 = .ok (.aload_n 0, 1) := by decide +kernel
theorem dX12_behind_27 : decode cX12_behind 27 = .ok (.invokevirtual 86, 3) := by decide +kernel
theorem dX12_behind_30 : decode cX12_behind 30 = .ok (.astore_n 3, 1) := by decide +kernel
theorem dX12_behind_31 : decode cX12_behind 31 = .ok (.iconst 0, 1) := by decide +kernel
theorem dX12_behind_32 : decode cX12_behind 32 = .ok (.istore 4, 2) := by decide +kernel
theorem dX12_behind_34 : decode cX12_behind 34 = .ok (.iload 4, 2) := by decide +kernel
theorem dX12_behind_36 : decode cX12_behind 36 = .ok (.aload_n 0, 1) := by decide +kernel
theorem dX12_behind_37 : decode cX12_behind 37 = .ok (.getfield 22, 3) := by decide +kernel
theorem dX12_behind_40 : decode cX12_behind 40 = .ok (.iconst 0, 1) := by decide +kernel
theorem dX12_behind_41 : decode cX12_behind 41 = .ok (.invokeinterface 65 2, 5) := by decide +kernel
theorem dX12_behind_46 : decode cX12_behind 46 = .ok (.checkcast 45, 3) := by decide +kernel
theorem dX12_behind_49 : decode cX12_behind 49 = .ok (.invokeinterface 54 1, 5) := by decide +kernel
theorem dX12_behind_54 : decode cX12_behind 54 = .ok (.if_icmp .ge 99, 3) := by decide +kernel
theorem dX12_behind_57 : decode cX12_behind 57 = .ok (.aload_n 0, 1) := by decide +kernel
theorem dX12_behind_58 : decode cX12_behind 58 = .ok (.getfield 22, 3) := by decide +kernel
theorem dX12_behind_61 : decode cX12_behind 61 = .ok (.iconst 0, 1) := by decide +kernel
theorem dX12_behind_62 : decode cX12_behind 62 = .ok (.invokeinterface 65 2, 5) := by decide +kernel
theorem dX12_behind_67 : decode cX12_behind 67 = .ok (.checkcast 45, 3) := by decide +kernel
theorem dX12_behind_70 : decode cX12_behind 70 = .ok (.iload 4, 2) := by decide +kernel
theorem dX12_behind_72 : decode cX12_behind 72 = .ok (.invokeinterface 65 2, 5) := by decide +kernel
theorem dX12_behind_77 : decode cX12_behind 77 = .ok (.aload_n 3, 1) := by decide +kernel
theorem dX12_behind_78 : decode cX12_behind 78 = .ok (.iconst 0, 1) := by decide +kernel
theorem dX12_behind_79 : decode cX12_behind 79 = .ok (.invokeinterface 65 2, 5) := by decide +kernel
theorem dX12_behind_84 : decode cX12_behind 84 = .ok (.if_acmp .eq 63, 3) := by decide +kernel
theorem dX12_behind_87 : decode cX12_behind 87 = .ok (.aload_n 0, 1) := by decide +kernel
theorem dX12_behind_88 : decode cX12_behind 88 = .ok (.getfield 22, 3) := by decide +kernel
theorem dX12_behind_91 : decode cX12_behind 91 = .ok (.iconst 0, 1) := by decide +kernel
theorem dX12_behind_92 : decode cX12_behind 92 = .ok (.invokeinterface 65 2, 5) := by decide +kernel
theorem dX12_behind_97 : decode cX12_behind 97 = .ok (.checkcast 45, 3) := by decide +kernel
theorem dX12_behind_100 : decode cX12_behind 100 = .ok (.iload 4, 2) := by decide +kernel
theorem dX12_behind_102 : decode cX12_behind 102 = .ok (.invokeinterface 65 2, 5) := by decide +kernel
theorem dX12_behind_107 : decode cX12_behind 107 = .ok (.aload_n 3, 1) := by decide +kernel
theorem dX12_behind_108 : decode cX12_behind 108 = .ok (.iconst 1, 1) := by decide +kernel
theorem dX12_behind_109 : decode cX12_behind 109 = .ok (.invokeinterface 65 2, 5) := by decide +kernel
theorem dX12_behind_114 : decode cX12_behind 114 = .ok (.if_acmp .eq 33, 3) := by decide +kernel
theorem dX12_behind_117 : decode cX12_behind 117 = .ok (.aload_n 2, 1) := by decide +kernel
theorem dX12_behind_118 : decode cX12_behind 118 = .ok (.aload_n 0, 1) := by decide +kernel
theorem dX12_behind_119 : decode cX12_behind 119 = .ok (.getfield 22, 3) := by decide +kernel
theorem dX12_behind_122 : decode cX12_behind 122 = .ok (.iconst 0, 1) := by decide +kernel
theorem dX12_behind_123 : decode cX12_behind 123 = .ok (.invokeinterface 65 2, 5) := by decide +kernel
theorem dX12_behind_128 : decode cX12_behind 128 = .ok (.checkcast 45, 3) := by decide +kernel
theorem dX12_behind_131 : decode cX12_behind 131 = .ok (.iload 4, 2) := by decide +kernel
theorem dX12_behind_133 : decode cX12_behind 133 = .ok (.invokeinterface 65 2, 5) := by decide +kernel
theorem dX12_behind_138 : decode cX12_behind 138 = .ok (.checkcast 69, 3) := by decide +kernel
theorem dX12_behind_141 : decode cX12_behind 141 = .ok (.invokeinterface 44 2, 5) := by decide +kernel
theorem dX12_behind_146 : decode cX12_behind 146 = .ok (.pop, 1) := by decide +kernel
theorem dX12_behind_147 : decode cX12_behind 147 = .ok (.iinc 4 1, 3) := by decide +kernel
theorem dX12_behind_150 : decode cX12_behind 150 = .ok (.goto (-116), 3) := by decide +kernel
theorem dX12_behind_153 : decode cX12_behind 153 = .ok (.iconst 0, 1) := by decide +kernel
theorem dX12_behind_154 : decode cX12_behind 154 = .ok (.istore_n 3, 1) := by decide +kernel
theorem dX12_behind_155 : decode cX12_behind 155 = .ok (.iload_n 3, 1) := by decide +kernel
theorem dX12_behind_156 : decode cX12_behind 156 = .ok (.aload_n 0, 1) := by decide +kernel
theorem dX12_behind_157 : decode cX12_behind 157 = .ok (.getfield 26, 3) := by decide +kernel
theorem dX12_behind_160 : decode cX12_behind 160 = .ok (.invokeinterface 54 1, 5) := by decide +kernel
theorem dX12_behind_165 : decode cX12_behind 165 = .ok (.if_icmp .ge 29, 3) := by decide +kernel
theorem dX12_behind_168 : decode cX12_behind 168 = .ok (.aload_n 2, 1) := by decide +kernel
theorem dX12_behind_169 : decode cX12_behind 169 = .ok (.aload_n 0, 1) := by decide +kernel
theorem dX12_behind_170 : decode cX12_behind 170 = .ok (.getfield 26, 3) := by decide +kernel
theorem dX12_behind_173 : decode cX12_behind 173 = .ok (.iload_n 3, 1) := by decide +kernel
theorem dX12_behind_174 : decode cX12_behind 174 = .ok (.invokeinterface 65 2, 5) := by decide +kernel
theorem dX12_behind_179 : decode cX12_behind 179 = .ok (.checkcast 69, 3) := by decide +kernel
theorem dX12_behind_182 : decode cX12_behind 182 = .ok (.invokeinterface 44 2, 5) := by decide +kernel
theorem dX12_behind_187 : decode cX12_behind 187 = .ok (.pop, 1) := by decide +kernel
theorem dX12_behind_188 : decode cX12_behind 188 = .ok (.iinc 3 1, 3) := by decide +kernel
theorem dX12_behind_191 : decode cX12_behind 191 = .ok (.goto (-36), 3) := by decide +kernel
theorem dX12_behind_194 : decode cX12_behind 194 = .ok (.aload_n 1, 1) := by decide +kernel
theorem dX12_behind_195 : decode cX12_behind 195 = .ok (.aload_n 2, 1) := by decide +kernel
theorem dX12_behind_196 : decode cX12_behind 196 = .ok (.invokeinterface 44 2, 5) := by decide +kernel
theorem dX12_behind_201 : decode cX12_behind 201 = .ok (.pop, 1) := by decide +kernel
theorem dX12_behind_202 : decode cX12_behind 202 = .ok (.aload_n 0, 1) := by decide +kernel
theorem dX12_behind_203 : decode cX12_behind 203 = .ok (.getfield 15, 3) := by decide +kernel
theorem dX12_behind_206 : decode cX12_behind 206 = .ok (.iconst 3, 1) := by decide +kernel
theorem dX12_behind_207 : decode cX12_behind 207 = .ok (.iaload, 1) := by decide +kernel
theorem dX12_behind_208 : decode cX12_behind 208 = .ok (.ifCond .ne 80, 3) := by decide +kernel
theorem dX12_behind_211 : decode cX12_behind 211 = .ok (.aload_n 0, 1) := by decide +kernel
theorem dX12_behind_212 : decode cX12_behind 212 = .ok (.getfield 22, 3) := by decide +kernel
theorem dX12_behind_215 : decode cX12_behind 215 = .ok (.iconst 0, 1) := by decide +kernel
theorem dX12_behind_216 : decode cX12_behind 216 = .ok (.invokeinterface 65 2, 5) := by decide +kernel
theorem dX12_behind_221 : decode cX12_behind 221 = .ok (.checkcast 45, 3) := by decide +kernel
theorem dX12_behind_224 : decode cX12_behind 224 = .ok (.invokeinterface 54 1, 5) := by decide +kernel
theorem dX12_behind_229 : decode cX12_behind 229 = .ok (.aload_n 0, 1) := by decide +kernel
theorem dX12_behind_230 : decode cX12_behind 230 = .ok (.getfield 15, 3) := by decide +kernel
theorem dX12_behind_233 : decode cX12_behind 233 = .ok (.iconst 4, 1) := by decide +kernel
theorem dX12_behind_234 : decode cX12_behind 234 = .ok (.iaload, 1) := by decide +kernel
theorem dX12_behind_235 : decode cX12_behind 235 = .ok (.irem, 1) := by decide +kernel
theorem dX12_behind_236 : decode cX12_behind 236 = .ok (.iconst 1, 1) := by decide +kernel
theorem dX12_behind_237 : decode cX12_behind 237 = .ok (.if_icmp .ne 51, 3) := by decide +kernel
theorem dX12_behind_240 : decode cX12_behind 240 = .ok (.aload_n 2, 1) := by decide +kernel
theorem dX12_behind_241 : decode cX12_behind 241 = .ok (.aload_n 0, 1) := by decide +kernel
theorem dX12_behind_242 : decode cX12_behind 242 = .ok (.getfield 22, 3) := by decide +kernel
theorem dX12_behind_245 : decode cX12_behind 245 = .ok (.iconst 0, 1) := by decide +kernel
theorem dX12_behind_246 : decode cX12_behind 246 = .ok (.invokeinterface 65 2, 5) := by decide +kernel
theorem dX12_behind_251 : decode cX12_behind 251 = .ok (.checkcast 45, 3) := by decide +kernel
theorem dX12_behind_254 : decode cX12_behind 254 = .ok (.aload_n 0, 1) := by decide +kernel
theorem dX12_behind_255 : decode cX12_behind 255 = .ok (.getfield 22, 3) := by decide +kernel
theorem dX12_behind_258 : decode cX12_behind 258 = .ok (.iconst 0, 1) := by decide +kernel
theorem dX12_behind_259 : decode cX12_behind 259 = .ok (.invokeinterface 65 2, 5) := by decide +kernel
theorem dX12_behind_264 : decode cX12_behind 264 = .ok (.checkcast 45, 3) := by decide +kernel
theorem dX12_behind_267 : decode cX12_behind 267 = .ok (.invokeinterface 54 1, 5) := by decide +kernel
theorem dX12_behind_272 : decode cX12_behind 272 = .ok (.iconst 1, 1) := by decide +kernel
theorem dX12_behind_273 : decode cX12_behind 273 = .ok (.isub, 1) := by decide +kernel
theorem dX12_behind_274 : decode cX12_behind 274 = .ok (.invokeinterface 65 2, 5) := by decide +kernel
theorem dX12_behind_279 : decode cX12_behind 279 = .ok (.checkcast 69, 3) := by decide +kernel
theorem dX12_behind_282 : decode cX12_behind 282 = .ok (.invokeinterface 44 2, 5) := by decide +kernel
theorem dX12_behind_287 : decode cX12_behind 287 = .ok (.pop, 1) := by decide +kernel
theorem dX12_behind_288 : decode cX12_behind 288 = .ok (.iconst 0, 1) := by decide +kernel
theorem dX12_behind_289 : decode cX12_behind 289 = .ok (.istore_n 3, 1) := by decide +kernel
theorem dX12_behind_290 : decode cX12_behind 290 = .ok (.iload_n 3, 1) := by decide +kernel
theorem dX12_behind_291 : decode cX12_behind 291 = .ok (.aload_n 0, 1) := by decide +kernel
theorem dX12_behind_292 : decode cX12_behind 292 = .ok (.getfield 22, 3) := by decide +kernel
theorem dX12_behind_295 : decode cX12_behind 295 = .ok (.invokeinterface 54 1, 5) := by decide +kernel
theorem dX12_behind_300 : decode cX12_behind 300 = .ok (.iconst 1, 1) := by decide +kernel
theorem dX12_behind_301 : decode cX12_behind 301 = .ok (.isub, 1) := by decide +kernel
theorem dX12_behind_302 : decode cX12_behind 302 = .ok (.if_icmp .ge 108, 3) := by decide +kernel
theorem dX12_behind_305 : decode cX12_behind 305 = .ok (.aload_n 0, 1) := by decide +kernel
theorem dX12_behind_306 : decode cX12_behind 306 = .ok (.getfield 15, 3) := by decide +kernel
theorem dX12_behind_309 : decode cX12_behind 309 = .ok (.iconst 3, 1) := by decide +kernel
theorem dX12_behind_310 : decode cX12_behind 310 = .ok (.iaload, 1) := by decide +kernel
theorem dX12_behind_311 : decode cX12_behind 311 = .ok (.iconst 2, 1) := by decide +kernel
theorem dX12_behind_312 : decode cX12_behind 312 = .ok (.if_icmp .ne 98, 3) := by decide +kernel
theorem dX12_behind_315 : decode cX12_behind 315 = .ok (.new 19, 3) := by decide +kernel
theorem dX12_behind_318 : decode cX12_behind 318 = .ok (.dup, 1) := by decide +kernel
theorem dX12_behind_319 : decode cX12_behind 319 = .ok (.invokespecial 21, 3) := by decide +kernel
theorem dX12_behind_322 : decode cX12_behind 322 = .ok (.astore 4, 2) := by decide +kernel
theorem dX12_behind_324 : decode cX12_behind 324 = .ok (.aload_n 0, 1) := by decide +kernel
theorem dX12_behind_325 : decode cX12_behind 325 = .ok (.getfield 26, 3) := by decide +kernel
theorem dX12_behind_328 : decode cX12_behind 328 = .ok (.invokeinterface 54 1, 5) := by decide +kernel
theorem dX12_behind_333 : decode cX12_behind 333 = .ok (.istore 5, 2) := by decide +kernel
theorem dX12_behind_335 : decode cX12_behind 335 = .ok (.iload 5, 2) := by decide +kernel
theorem dX12_behind_337 : decode cX12_behind 337 = .ok (.aload_n 0, 1) := by decide +kernel
theorem dX12_behind_338 : decode cX12_behind 338 = .ok (.getfield 22, 3) := by decide +kernel
theorem dX12_behind_341 : decode cX12_behind 341 = .ok (.iload_n 3, 1) := by decide +kernel
theorem dX12_behind_342 : decode cX12_behind 342 = .ok (.invokeinterface 65 2, 5) := by decide +kernel
theorem dX12_behind_347 : decode cX12_behind 347 = .ok (.checkcast 45, 3) := by decide +kernel
theorem dX12_behind_350 : decode cX12_behind 350 = .ok (.invokeinterface 54 1, 5) := by decide +kernel
theorem dX12_behind_355 : decode cX12_behind 355 = .ok (.if_icmp .ge 40, 3) := by decide +kernel
theorem dX12_behind_358 : decode cX12_behind 358 = .ok (.aload 4, 2) := by decide +kernel
theorem dX12_behind_360 : decode cX12_behind 360 = .ok (.aload_n 0, 1) := by decide +kernel
theorem dX12_behind_361 : decode cX12_behind 361 = .ok (.getfield 22, 3) := by decide +kernel
theorem dX12_behind_364 : decode cX12_behind 364 = .ok (.iload_n 3, 1) := by decide +kernel
theorem dX12_behind_365 : decode cX12_behind 365 = .ok (.invokeinterface 65 2, 5) := by decide +kernel
theorem dX12_behind_370 : decode cX12_behind 370 = .ok (.checkcast 45, 3) := by decide +kernel
theorem dX12_behind_373 : decode cX12_behind 373 = .ok (.iload 5, 2) := by decide +kernel
theorem dX12_behind_375 : decode cX12_behind 375 = .ok (.invokeinterface 65 2, 5) := by decide +kernel
theorem dX12_behind_380 : decode cX12_behind 380 = .ok (.checkcast 69, 3) := by decide +kernel
theorem dX12_behind_383 : decode cX12_behind 383 = .ok (.invokeinterface 44 2, 5) := by decide +kernel
theorem dX12_behind_388 : decode cX12_behind 388 = .ok (.pop, 1) := by decide +kernel
theorem dX12_behind_389 : decode cX12_behind 389 = .ok (.iinc 5 1, 3) := by decide +kernel
theorem dX12_behind_392 : decode cX12_behind 392 = .ok (.goto (-57), 3) := by decide +kernel
theorem dX12_behind_395 : decode cX12_behind 395 = .ok (.aload_n 1, 1) := by decide +kernel
theorem dX12_behind_396 : decode cX12_behind 396 = .ok (.aload 4, 2) := by decide +kernel
theorem dX12_behind_398 : decode cX12_behind 398 = .ok (.invokeinterface 44 2, 5) := by decide +kernel
theorem dX12_behind_403 : decode cX12_behind 403 = .ok (.pop, 1) := by decide +kernel
theorem dX12_behind_404 : decode cX12_behind 404 = .ok (.iinc 3 1, 3) := by decide +kernel
theorem dX12_behind_407 : decode cX12_behind 407 = .ok (.goto (-117), 3) := by decide +kernel
theorem dX12_behind_410 : decode cX12_behind 410 = .ok (.aload_n 1, 1) := by decide +kernel
theorem dX12_behind_411 : decode cX12_behind 411 = .ok (.areturn, 1) := by decide +kernel
set_option maxRecDepth 20000 in
theorem ggX12_taken0_Jx4a65c_init_da8c8 : GoodIn wsX12_taken0 wsJx4a65c_init_da8c8 := goodIn_r _ [7, 8, 9, 10, 11, 12, 13, 14, 15, 16, 17, 18, 19, 20, 21, 121, 122, 123] (by decide +kernel) (by decide +kernel)
set_option maxRecDepth 20000 in
theorem gX12_taken0_Jx4a65c_init_da8c8 : GoodIn wsX12_taken0 (wsJx4a65c_init_da8c8) := ggX12_taken0_Jx4a65c_init_da8c8
set_option maxRecDepth 20000 in
theorem ggX12_taken0_X12_taken : GoodIn wsX12_taken0 wsX12_taken := goodIn_r _ [26, 2, 3, 4, 27, 28, 29, 1, 30, 31, 32, 33, 34, 35, 36, 37, 5, 6, 7, 8, 9, 10, 11, 12, 13, 14, 15, 16, 17, 18, 19, 20, 21, 38, 39, 40, 41, 42, 43, 44, 45, 46, 47, 48, 49, 50, 51, 52, 53, 54, 55, 56, 57, 58, 59, 60, 61, 62, 63, 64, 65, 66, 67, 68, 69, 70, 71, 72, 73, 74, 75, 76, 77, 78, 79, 80, 81, 82, 83, 84, 85, 86, 87, 88, 89, 90, 91, 92, 93, 94, 95, 96, 97, 98, 99, 100, 101, 102, 103, 104, 105, 106, 107, 25, 108, 121, 122, 123, 109, 110, 111, 112, 113, 114, 115, 116, 117, 118, 119, 120] (by decide +kernel) (by decide +kernel)
set_option maxRecDepth 20000 in
theorem gX12_taken0_X12_taken : GoodIn wsX12_taken0 (wsV RX12 90 RX12 yX12_taken wsX12_taken) := goodIn_app (goodIn_of _ (by decide +kernel)) ggX12_taken0_X12_taken
theorem dX12_taken0_0 : decode cX12_taken0 0 = .ok (.aload_n 0, 1) := by decide +kernel
theorem dX12_taken0_1 : decode cX12_taken0 1 = .ok (.getfield 26, 3) := by decide +kernel
theorem dX12_taken0_4 : decode cX12_taken0 4 = .ok (.astore_n 1, 1) := by decide +kernel
theorem dX12_taken0_5 : decode cX12_taken0 5 = .ok (.aload_n 0, 1) := by decide +kernel
theorem dX12_taken0_6 : decode cX12_taken0 6 = .ok (.new 19, 3) := by decide +kernel
theorem dX12_taken0_9 : decode cX12_taken0 9 = .ok (.dup, 1) := by decide +kernel
theorem dX12_taken0_10 : decode cX12_taken0 10 = .ok (.invokespecial 21, 3) := by decide +kernel
theorem dX12_taken0_13 : decode cX12_taken0 13 = .ok (.putfield 26, 3) := by decide +kernel
theorem dX12_taken0_16 : decode cX12_taken0 16 = .ok (.aload_n 0, 1) := by decide +kernel
theorem dX12_taken0_17 : decode cX12_taken0 17 = .ok (.invokevirtual 90, 3) := by decide +kernel
theorem dX12_taken0_20 : decode cX12_taken0 20 = .ok (.astore_n 2, 1) := by decide +kernel
theorem dX12_taken0_21 : decode cX12_taken0 21 = .ok (.aload_n 0, 1) := by decide +kernel
theorem dX12_taken0_22 : decode cX12_taken0 22 = .ok (.aload_n 1, 1) := by decide +kernel
theorem dX12_taken0_23 : decode cX12_taken0 23 = .ok (.putfield 26, 3) := by decide +kernel
theorem dX12_taken0_26 : decode cX12_taken0 26 = .ok (.aload_n 2, 1) := by decide +kernel
theorem dX12_taken0_27 : decode cX12_taken0 27 = .ok (.areturn, 1) := by decide +kernel
set_option maxRecDepth 20000 in
theorem ggX12_merge_X12_taken : GoodIn wsX12_merge wsX12_taken := goodIn_r _ [18, 10, 11, 12, 4, 9, 19, 5, 1, 20, 21, 22, 23, 24, 25, 26, 27, 28, 29, 30, 31, 32, 33, 34, 35, 36, 37, 38, 39, 40, 41, 42, 43, 44, 45, 46, 47, 48, 49, 50, 51, 52, 53, 54, 55, 56, 57, 58, 59, 60, 61, 62, 63, 64, 65, 66, 67, 68, 69, 70, 71, 72, 73, 74, 75, 76, 77, 78, 79, 80, 81, 82, 83, 84, 85, 86, 87, 88, 89, 90, 91, 92, 93, 94, 95, 96, 97, 98, 99, 100, 101, 102, 103, 104, 105, 106, 107, 108, 109, 110, 111, 112, 113, 17, 114, 148, 149, 150, 136, 137, 138, 139, 140, 141, 142, 143, 144, 145, 146, 147] (by decide +kernel) (by decide +kernel)
set_option maxRecDepth 20000 in
theorem gX12_merge_X12_taken : GoodIn wsX12_merge (wsV RX12 90 RX12 yX12_taken wsX12_taken) := goodIn_app (goodIn_of _ (by decide +kernel)) ggX12_merge_X12_taken
set_option maxRecDepth 20000 in
theorem ggX12_merge_Jx4a65c_size_8abf5 : GoodIn wsX12_merge wsJx4a65c_size_8abf5 := goodIn_r _ [47, 48, 148, 149, 150] (by decide +kernel) (by decide +kernel)
set_option maxRecDepth 20000 in
theorem gX12_merge_Jx4a65c_size_8abf5_f54Jx4a65c : GoodIn wsX12_merge (va_wsF RX12 54 RJx4a65c ⟨"java/util/List", "size", "()I"⟩ yJx4a65c_size_8abf5 wsJx4a65c_size_8abf5) := goodIn_app (goodIn_of _ (by decide +kernel)) ggX12_merge_Jx4a65c_size_8abf5
set_option maxRecDepth 20000 in
theorem ggX12_merge_Jx4a65c_get_915e3 : GoodIn wsX12_merge wsJx4a65c_get_915e3 := goodIn_r _ [52, 48, 53, 54, 55, 56, 57, 58, 59, 60, 61, 62, 63, 12, 64, 31, 148, 149, 150] (by decide +kernel) (by decide +kernel)
set_option maxRecDepth 20000 in
theorem gX12_merge_Jx4a65c_get_915e3_f65Jx4a65c : GoodIn wsX12_merge (va_wsF RX12 65 RJx4a65c ⟨"java/util/List", "get", "(I)Ljava/lang/Object;"⟩ yJx4a65c_get_915e3 wsJx4a65c_get_915e3) := goodIn_app (goodIn_of _ (by decide +kernel)) ggX12_merge_Jx4a65c_get_915e3
set_option maxRecDepth 20000 in
theorem ggX12_merge_X13_inserts : GoodIn wsX12_merge wsX13_inserts := goodIn_r _ [118, 119, 120, 121, 116, 122, 123, 151, 152, 153, 154, 155, 156, 157, 158, 159, 160, 161, 162, 163, 164] (by decide +kernel) (by decide +kernel)
set_option maxRecDepth 20000 in
theorem gX12_merge_X13_inserts_n93 : GoodIn wsX12_merge (wsX13_inserts) := ggX12_merge_X13_inserts
set_option maxRecDepth 20000 in
theorem ggX12_merge_Jx4a65c_add_9ea2d : GoodIn wsX12_merge wsJx4a65c_add_9ea2d := goodIn_r _ [68, 69, 70, 31, 48, 71, 72, 73, 12, 74, 75, 76, 77, 78, 79, 80, 81, 82, 30, 83, 25, 22, 26, 84, 85, 86, 87, 88, 89, 90, 91, 92, 93, 94, 95, 96, 97, 98, 99, 100, 101, 102, 103, 104, 105, 106, 107, 21, 23, 108, 109, 110, 111, 148, 149, 150] (by decide +kernel) (by decide +kernel)
set_option maxRecDepth 20000 in
theorem gX12_merge_Jx4a65c_add_9ea2d_f44Jx4a65c : GoodIn wsX12_merge (va_wsF RX12 44 RJx4a65c ⟨"java/util/List", "add", "(Ljava/lang/Object;)Z"⟩ yJx4a65c_add_9ea2d wsJx4a65c_add_9ea2d) := goodIn_app (goodIn_of _ (by decide +kernel)) ggX12_merge_Jx4a65c_add_9ea2d
set_option maxRecDepth 20000 in
theorem ggX12_merge_X12_mergesOfPass : GoodIn wsX12_merge wsX12_mergesOfPass := goodIn_r _ [127, 4, 9, 19, 44, 45, 46, 12, 47, 48, 49, 50, 51, 52, 53, 54, 55, 56, 57, 58, 59, 60, 61, 62, 63, 64, 31, 136, 137, 138, 139, 140, 141, 142, 143, 144, 145, 146, 147, 148, 149, 150] (by decide +kernel) (by decide +kernel)
set_option maxRecDepth 20000 in
theorem gX12_merge_X12_mergesOfPass : GoodIn wsX12_merge (wsV RX12 103 RX12 yX12_mergesOfPass wsX12_mergesOfPass) := goodIn_app (goodIn_of _ (by decide +kernel)) ggX12_merge_X12_mergesOfPass
set_option maxRecDepth 20000 in
theorem ggX12_merge_X12_behind : GoodIn wsX12_merge wsX12_behind := goodIn_r _ [131, 10, 11, 12, 4, 9, 19, 1, 5, 27, 28, 29, 30, 31, 32, 33, 34, 35, 36, 37, 38, 39, 40, 41, 42, 43, 132, 133, 134, 17, 135, 14, 15, 16, 18, 20, 21, 22, 23, 24, 25, 26, 44, 45, 46, 47, 48, 49, 50, 51, 52, 53, 54, 55, 56, 57, 58, 59, 60, 61, 62, 63, 64, 65, 66, 67, 68, 69, 70, 71, 72, 73, 74, 75, 76, 77, 78, 79, 80, 81, 82, 83, 84, 85, 86, 87, 88, 89, 90, 91, 92, 93, 94, 95, 96, 97, 98, 99, 100, 101, 102, 103, 104, 105, 106, 107, 108, 109, 110, 111, 112, 113, 114, 148, 149, 150, 136, 137, 138, 139, 140, 141, 142, 143, 144, 145, 146, 147] (by decide +kernel) (by decide +kernel)
set_option maxRecDepth 20000 in
theorem gX12_merge_X12_behind : GoodIn wsX12_merge (wsV RX12 106 RX12 yX12_behind wsX12_behind) := goodIn_app (goodIn_of _ (by decide +kernel)) ggX12_merge_X12_behind
set_option maxRecDepth 20000 in
theorem ggX12_merge_Jx4a65c_init_da8c8 : GoodIn wsX12_merge wsJx4a65c_init_da8c8 := goodIn_r _ [29, 30, 31, 32, 33, 34, 35, 36, 37, 38, 39, 40, 41, 42, 43, 148, 149, 150] (by decide +kernel) (by decide +kernel)
set_option maxRecDepth 20000 in
theorem gX12_merge_Jx4a65c_init_da8c8 : GoodIn wsX12_merge (wsJx4a65c_init_da8c8) := ggX12_merge_Jx4a65c_init_da8c8
theorem dX12_merge_0 : decode cX12_merge 0 = .ok (.aload_n 0, 1) := by decide +kernel
theorem dX12_merge_1 : decode cX12_merge 1 = .ok (.invokevirtual 90, 3) := by decide +kernel
theorem dX12_merge_4 : decode cX12_merge 4 = .ok (.astore_n 1, 1) := by decide +kernel
theorem dX12_merge_5 : decode cX12_merge 5 = .ok (.iconst 0, 1) := by decide +kernel
theorem dX12_merge_6 : decode cX12_merge 6 = .ok (.istore_n 2, 1) := by decide +kernel
theorem dX12_merge_7 : decode cX12_merge 7 = .ok (.iconst 0, 1) := by decide +kernel
theorem dX12_merge_8 : decode cX12_merge 8 = .ok (.istore_n 3, 1) := by decide +kernel
theorem dX12_merge_9 : decode cX12_merge 9 = .ok (.iload_n 3, 1) := by decide +kernel
theorem dX12_merge_10 : decode cX12_merge 10 = .ok (.aload_n 1, 1) := by decide +kernel
theorem dX12_merge_11 : decode cX12_merge 11 = .ok (.invokeinterface 54 1, 5) := by decide +kernel
theorem dX12_merge_16 : decode cX12_merge 16 = .ok (.if_icmp .ge 23, 3) := by decide +kernel
theorem dX12_merge_19 : decode cX12_merge 19 = .ok (.iload_n 2, 1) := by decide +kernel
theorem dX12_merge_20 : decode cX12_merge 20 = .ok (.aload_n 1, 1) := by decide +kernel
theorem dX12_merge_21 : decode cX12_merge 21 = .ok (.iload_n 3, 1) := by decide +kernel
theorem dX12_merge_22 : decode cX12_merge 22 = .ok (.invokeinterface 65 2, 5) := by decide +kernel
theorem dX12_merge_27 : decode cX12_merge 27 = .ok (.checkcast 69, 3) := by decide +kernel
theorem dX12_merge_30 : decode cX12_merge 30 = .ok (.arraylength, 1) := by decide +kernel
theorem dX12_merge_31 : decode cX12_merge 31 = .ok (.iadd, 1) := by decide +kernel
theorem dX12_merge_32 : decode cX12_merge 32 = .ok (.istore_n 2, 1) := by decide +kernel
theorem dX12_merge_33 : decode cX12_merge 33 = .ok (.iinc 3 1, 3) := by decide +kernel
theorem dX12_merge_36 : decode cX12_merge 36 = .ok (.goto (-27), 3) := by decide +kernel
theorem dX12_merge_39 : decode cX12_merge 39 = .ok (.iload_n 2, 1) := by decide +kernel
theorem dX12_merge_40 : decode cX12_merge 40 = .ok (.newarray .int, 2) := by decide +kernel
theorem dX12_merge_42 : decode cX12_merge 42 = .ok (.astore_n 3, 1) := by decide +kernel
theorem dX12_merge_43 : decode cX12_merge 43 = .ok (.iconst 0, 1) := by decide +kernel
theorem dX12_merge_44 : decode cX12_merge 44 = .ok (.istore 4, 2) := by decide +kernel
theorem dX12_merge_46 : decode cX12_merge 46 = .ok (.iconst 0, 1) := by decide +kernel
theorem dX12_merge_47 : decode cX12_merge 47 = .ok (.istore 5, 2) := by decide +kernel
theorem dX12_merge_49 : decode cX12_merge 49 = .ok (.iload 5, 2) := by decide +kernel
theorem dX12_merge_51 : decode cX12_merge 51 = .ok (.aload_n 1, 1) := by decide +kernel
theorem dX12_merge_52 : decode cX12_merge 52 = .ok (.invokeinterface 54 1, 5) := by decide +kernel
theorem dX12_merge_57 : decode cX12_merge 57 = .ok (.if_icmp .ge 56, 3) := by decide +kernel
theorem dX12_merge_60 : decode cX12_merge 60 = .ok (.iconst 0, 1) := by decide +kernel
theorem dX12_merge_61 : decode cX12_merge 61 = .ok (.istore 6, 2) := by decide +kernel
theorem dX12_merge_63 : decode cX12_merge 63 = .ok (.iload 6, 2) := by decide +kernel
theorem dX12_merge_65 : decode cX12_merge 65 = .ok (.aload_n 1, 1) := by decide +kernel
theorem dX12_merge_66 : decode cX12_merge 66 = .ok (.iload 5, 2) := by decide +kernel
theorem dX12_merge_68 : decode cX12_merge 68 = .ok (.invokeinterface 65 2, 5) := by decide +kernel
theorem dX12_merge_73 : decode cX12_merge 73 = .ok (.checkcast 69, 3) := by decide +kernel
theorem dX12_merge_76 : decode cX12_merge 76 = .ok (.arraylength, 1) := by decide +kernel
theorem dX12_merge_77 : decode cX12_merge 77 = .ok (.if_icmp .ge 30, 3) := by decide +kernel
theorem dX12_merge_80 : decode cX12_merge 80 = .ok (.aload_n 3, 1) := by decide +kernel
theorem dX12_merge_81 : decode cX12_merge 81 = .ok (.iload 4, 2) := by decide +kernel
theorem dX12_merge_83 : decode cX12_merge 83 = .ok (.aload_n 1, 1) := by decide +kernel
theorem dX12_merge_84 : decode cX12_merge 84 = .ok (.iload 5, 2) := by decide +kernel
theorem dX12_merge_86 : decode cX12_merge 86 = .ok (.invokeinterface 65 2, 5) := by decide +kernel
theorem dX12_merge_91 : decode cX12_merge 91 = .ok (.checkcast 69, 3) := by decide +kernel
theorem dX12_merge_94 : decode cX12_merge 94 = .ok (.iload 6, 2) := by decide +kernel
theorem dX12_merge_96 : decode cX12_merge 96 = .ok (.iaload, 1) := by decide +kernel
theorem dX12_merge_97 : decode cX12_merge 97 = .ok (.iastore, 1) := by decide +kernel
theorem dX12_merge_98 : decode cX12_merge 98 = .ok (.iinc 4 1, 3) := by decide +kernel
theorem dX12_merge_101 : decode cX12_merge 101 = .ok (.iinc 6 1, 3) := by decide +kernel
theorem dX12_merge_104 : decode cX12_merge 104 = .ok (.goto (-41), 3) := by decide +kernel
theorem dX12_merge_107 : decode cX12_merge 107 = .ok (.iinc 5 1, 3) := by decide +kernel
theorem dX12_merge_110 : decode cX12_merge 110 = .ok (.goto (-61), 3) := by decide +kernel
theorem dX12_merge_113 : decode cX12_merge 113 = .ok (.aload_n 0, 1) := by decide +kernel
theorem dX12_merge_114 : decode cX12_merge 114 = .ok (.getfield 3, 3) := by decide +kernel
theorem dX12_merge_117 : decode cX12_merge 117 = .ok (.aload_n 3, 1) := by decide +kernel
theorem dX12_merge_118 : decode cX12_merge 118 = .ok (.aload_n 0, 1) := by decide +kernel
theorem dX12_merge_119 : decode cX12_merge 119 = .ok (.getfield 15, 3) := by decide +kernel
theorem dX12_merge_122 : decode cX12_merge 122 = .ok (.iconst 0, 1) := by decide +kernel
theorem dX12_merge_123 : decode cX12_merge 123 = .ok (.iaload, 1) := by decide +kernel
theorem dX12_merge_124 : decode cX12_merge 124 = .ok (.invokevirtual 93, 3) := by decide +kernel
theorem dX12_merge_127 : decode cX12_merge 127 = .ok (.aload_n 0, 1) := by decide +kernel
theorem dX12_merge_128 : decode cX12_merge 128 = .ok (.getfield 26, 3) := by decide +kernel
theorem dX12_merge_131 : decode cX12_merge 131 = .ok (.aload_n 3, 1) := by decide +kernel
theorem dX12_merge_132 : decode cX12_merge 132 = .ok (.invokeinterface 44 2, 5) := by decide +kernel
theorem dX12_merge_137 : decode cX12_merge 137 = .ok (.pop, 1) := by decide +kernel
theorem dX12_merge_138 : decode cX12_merge 138 = .ok (.aload_n 0, 1) := by decide +kernel
theorem dX12_merge_139 : decode cX12_merge 139 = .ok (.dup, 1) := by decide +kernel
theorem dX12_merge_140 : decode cX12_merge 140 = .ok (.getfield 97, 3) := by decide +kernel
theorem dX12_merge_143 : decode cX12_merge 143 = .ok (.iconst 1, 1) := by decide +kernel
theorem dX12_merge_144 : decode cX12_merge 144 = .ok (.iadd, 1) := by decide +kernel
theorem dX12_merge_145 : decode cX12_merge 145 = .ok (.putfield 97, 3) := by decide +kernel
theorem dX12_merge_148 : decode cX12_merge 148 = .ok (.aload_n 0, 1) := by decide +kernel
theorem dX12_merge_149 : decode cX12_merge 149 = .ok (.dup, 1) := by decide +kernel
theorem dX12_merge_150 : decode cX12_merge 150 = .ok (.getfield 33, 3) := by decide +kernel
theorem dX12_merge_153 : decode cX12_merge 153 = .ok (.iload_n 2, 1) := by decide +kernel
theorem dX12_merge_154 : decode cX12_merge 154 = .ok (.iadd, 1) := by decide +kernel
theorem dX12_merge_155 : decode cX12_merge 155 = .ok (.putfield 33, 3) := by decide +kernel
theorem dX12_merge_158 : decode cX12_merge 158 = .ok (.aload_n 0, 1) := by decide +kernel
theorem dX12_merge_159 : decode cX12_merge 159 = .ok (.dup, 1) := by decide +kernel
theorem dX12_merge_160 : decode cX12_merge 160 = .ok (.getfield 100, 3) := by decide +kernel
theorem dX12_merge_163 : decode cX12_merge 163 = .ok (.iload_n 2, 1) := by decide +kernel
theorem dX12_merge_164 : decode cX12_merge 164 = .ok (.iadd, 1) := by decide +kernel
theorem dX12_merge_165 : decode cX12_merge 165 = .ok (.putfield 100, 3) := by decide +kernel
theorem dX12_merge_168 : decode cX12_merge 168 = .ok (.aload_n 0, 1) := by decide +kernel
theorem dX12_merge_169 : decode cX12_merge 169 = .ok (.getfield 26, 3) := by decide +kernel
theorem dX12_merge_172 : decode cX12_merge 172 = .ok (.invokeinterface 54 1, 5) := by decide +kernel
theorem dX12_merge_177 : decode cX12_merge 177 = .ok (.aload_n 0, 1) := by decide +kernel
theorem dX12_merge_178 : decode cX12_merge 178 = .ok (.invokevirtual 103, 3) := by decide +kernel
theorem dX12_merge_181 : decode cX12_merge 181 = .ok (.if_icmp .ne 37, 3) := by decide +kernel
theorem dX12_merge_184 : decode cX12_merge 184 = .ok (.aload_n 0, 1) := by decide +kernel
theorem dX12_merge_185 : decode cX12_merge 185 = .ok (.aload_n 0, 1) := by decide +kernel
theorem dX12_merge_186 : decode cX12_merge 186 = .ok (.invokevirtual 106, 3) := by decide +kernel
theorem dX12_merge_189 : decode cX12_merge 189 = .ok (.putfield 22, 3) := by decide +kernel
theorem dX12_merge_192 : decode cX12_merge 192 = .ok (.aload_n 0, 1) := by decide +kernel
theorem dX12_merge_193 : decode cX12_merge 193 = .ok (.new 19, 3) := by decide +kernel
theorem dX12_merge_196 : decode cX12_merge 196 = .ok (.dup, 1) := by decide +kernel
theorem dX12_merge_197 : decode cX12_merge 197 = .ok (.invokespecial 21, 3) := by decide +kernel
theorem dX12_merge_200 : decode cX12_merge 200 = .ok (.putfield 26, 3) := by decide +kernel
theorem dX12_merge_203 : decode cX12_merge 203 = .ok (.aload_n 0, 1) := by decide +kernel
theorem dX12_merge_204 : decode cX12_merge 204 = .ok (.iconst 0, 1) := by decide +kernel
theorem dX12_merge_205 : decode cX12_merge 205 = .ok (.putfield 100, 3) := by decide +kernel
theorem dX12_merge_208 : decode cX12_merge 208 = .ok (.aload_n 0, 1) := by decide +kernel
theorem dX12_merge_209 : decode cX12_merge 209 = .ok (.dup, 1) := by decide +kernel
theorem dX12_merge_210 : decode cX12_merge 210 = .ok (.getfield 109, 3) := by decide +kernel
theorem dX12_merge_213 : decode cX12_merge 213 = .ok (.iconst 1, 1) := by decide +kernel
theorem dX12_merge_214 : decode cX12_merge 214 = .ok (.iadd, 1) := by decide +kernel
theorem dX12_merge_215 : decode cX12_merge 215 = .ok (.putfield 109, 3) := by decide +kernel
theorem dX12_merge_218 : decode cX12_merge 218 = .ok (.return_, 1) := by decide +kernel
set_option maxRecDepth 20000 in
theorem ggX12_runs_Jx4a65c_size_8abf5 : GoodIn wsX12_runs wsJx4a65c_size_8abf5 := goodIn_r _ [13, 14, 49, 50, 51] (by decide +kernel) (by decide +kernel)
set_option maxRecDepth 20000 in
theorem gX12_runs_Jx4a65c_size_8abf5_f54Jx4a65c : GoodIn wsX12_runs (va_wsF RX12 54 RJx4a65c ⟨"java/util/List", "size", "()I"⟩ yJx4a65c_size_8abf5 wsJx4a65c_size_8abf5) := goodIn_app (goodIn_of _ (by decide +kernel)) ggX12_runs_Jx4a65c_size_8abf5
set_option maxRecDepth 20000 in
theorem ggX12_runs_Jx4a65c_get_915e3 : GoodIn wsX12_runs wsJx4a65c_get_915e3 := goodIn_r _ [18, 14, 19, 20, 21, 22, 23, 24, 25, 26, 27, 28, 29, 12, 30, 31, 49, 50, 51] (by decide +kernel) (by decide +kernel)
set_option maxRecDepth 20000 in
theorem gX12_runs_Jx4a65c_get_915e3_f65Jx4a65c : GoodIn wsX12_runs (va_wsF RX12 65 RJx4a65c ⟨"java/util/List", "get", "(I)Ljava/lang/Object;"⟩ yJx4a65c_get_915e3 wsJx4a65c_get_915e3) := goodIn_app (goodIn_of _ (by decide +kernel)) ggX12_runs_Jx4a65c_get_915e3
set_option maxRecDepth 20000 in
theorem ggX12_runs_X12_atBegin : GoodIn wsX12_runs wsX12_atBegin := goodIn_r _ [36, 3, 4, 9, 10, 11, 12, 13, 14, 15, 16, 17, 18, 19, 20, 21, 22, 23, 24, 25, 26, 27, 28, 29, 30, 31, 37, 38, 39, 40, 41, 42, 43, 44, 45, 46, 47, 48, 49, 50, 51] (by decide +kernel) (by decide +kernel)
set_option maxRecDepth 20000 in
theorem gX12_runs_X12_atBegin : GoodIn wsX12_runs (wsV RX12 70 RX12 yX12_atBegin wsX12_atBegin) := goodIn_app (goodIn_of _ (by decide +kernel)) ggX12_runs_X12_atBegin
theorem dX12_runs_0 : decode cX12_runs 0 = .ok (.aload_n 0, 1) := by decide +kernel
theorem dX12_runs_1 : decode cX12_runs 1 = .ok (.getfield 15, 3) := by decide +kernel
theorem dX12_runs_4 : decode cX12_runs 4 = .ok (.iconst 3, 1) := by decide +kernel
theorem dX12_runs_5 : decode cX12_runs 5 = .ok (.iaload, 1) := by decide +kernel
theorem dX12_runs_6 : decode cX12_runs 6 = .ok (.iconst 2, 1) := by decide +kernel
theorem dX12_runs_7 : decode cX12_runs 7 = .ok (.if_icmp .ne 22, 3) := by decide +kernel
theorem dX12_runs_10 : decode cX12_runs 10 = .ok (.aload_n 0, 1) := by decide +kernel
theorem dX12_runs_11 : decode cX12_runs 11 = .ok (.getfield 26, 3) := by decide +kernel
theorem dX12_runs_14 : decode cX12_runs 14 = .ok (.invokeinterface 54 1, 5) := by decide +kernel
theorem dX12_runs_19 : decode cX12_runs 19 = .ok (.aload_n 0, 1) := by decide +kernel
theorem dX12_runs_20 : decode cX12_runs 20 = .ok (.getfield 15, 3) := by decide +kernel
theorem dX12_runs_23 : decode cX12_runs 23 = .ok (.iconst 4, 1) := by decide +kernel
theorem dX12_runs_24 : decode cX12_runs 24 = .ok (.iaload, 1) := by decide +kernel
theorem dX12_runs_25 : decode cX12_runs 25 = .ok (.imul, 1) := by decide +kernel
theorem dX12_runs_26 : decode cX12_runs 26 = .ok (.goto 54, 3) := by decide +kernel
theorem dX12_runs_29 : decode cX12_runs 29 = .ok (.aload_n 0, 1) := by decide +kernel
theorem dX12_runs_30 : decode cX12_runs 30 = .ok (.getfield 15, 3) := by decide +kernel
theorem dX12_runs_33 : decode cX12_runs 33 = .ok (.iconst 3, 1) := by decide +kernel
theorem dX12_runs_34 : decode cX12_runs 34 = .ok (.iaload, 1) := by decide +kernel
theorem dX12_runs_35 : decode cX12_runs 35 = .ok (.iconst 1, 1) := by decide +kernel
theorem dX12_runs_36 : decode cX12_runs 36 = .ok (.if_icmp .ne 7, 3) := by decide +kernel
theorem dX12_runs_39 : decode cX12_runs 39 = .ok (.iconst 0, 1) := by decide +kernel
theorem dX12_runs_40 : decode cX12_runs 40 = .ok (.goto 40, 3) := by decide +kernel
theorem dX12_runs_43 : decode cX12_runs 43 = .ok (.aload_n 0, 1) := by decide +kernel
theorem dX12_runs_44 : decode cX12_runs 44 = .ok (.getfield 22, 3) := by decide +kernel
theorem dX12_runs_47 : decode cX12_runs 47 = .ok (.iconst 0, 1) := by decide +kernel
theorem dX12_runs_48 : decode cX12_runs 48 = .ok (.invokeinterface 65 2, 5) := by decide +kernel
theorem dX12_runs_53 : decode cX12_runs 53 = .ok (.checkcast 45, 3) := by decide +kernel
theorem dX12_runs_56 : decode cX12_runs 56 = .ok (.invokeinterface 54 1, 5) := by decide +kernel
theorem dX12_runs_61 : decode cX12_runs 61 = .ok (.aload_n 0, 1) := by decide +kernel
theorem dX12_runs_62 : decode cX12_runs 62 = .ok (.getfield 26, 3) := by decide +kernel
theorem dX12_runs_65 : decode cX12_runs 65 = .ok (.invokeinterface 54 1, 5) := by decide +kernel
theorem dX12_runs_70 : decode cX12_runs 70 = .ok (.aload_n 0, 1) := by decide +kernel
theorem dX12_runs_71 : decode cX12_runs 71 = .ok (.getfield 15, 3) := by decide +kernel
theorem dX12_runs_74 : decode cX12_runs 74 = .ok (.iconst 4, 1) := by decide +kernel
theorem dX12_runs_75 : decode cX12_runs 75 = .ok (.iaload, 1) := by decide +kernel
theorem dX12_runs_76 : decode cX12_runs 76 = .ok (.imul, 1) := by decide +kernel
theorem dX12_runs_77 : decode cX12_runs 77 = .ok (.invokestatic 73, 3) := by decide +kernel
theorem dX12_runs_80 : decode cX12_runs 80 = .ok (.istore_n 1, 1) := by decide +kernel
theorem dX12_runs_81 : decode cX12_runs 81 = .ok (.aload_n 0, 1) := by decide +kernel
theorem dX12_runs_82 : decode cX12_runs 82 = .ok (.invokevirtual 70, 3) := by decide +kernel
theorem dX12_runs_85 : decode cX12_runs 85 = .ok (.iload_n 1, 1) := by decide +kernel
theorem dX12_runs_86 : decode cX12_runs 86 = .ok (.isub, 1) := by decide +kernel
theorem dX12_runs_87 : decode cX12_runs 87 = .ok (.aload_n 0, 1) := by decide +kernel
theorem dX12_runs_88 : decode cX12_runs 88 = .ok (.getfield 26, 3) := by decide +kernel
theorem dX12_runs_91 : decode cX12_runs 91 = .ok (.invokeinterface 54 1, 5) := by decide +kernel
theorem dX12_runs_96 : decode cX12_runs 96 = .ok (.iadd, 1) := by decide +kernel
theorem dX12_runs_97 : decode cX12_runs 97 = .ok (.ireturn, 1) := by decide +kernel
set_option maxRecDepth 20000 in
theorem ggX12_tear_Jx4a65c_init_da8c8 : GoodIn wsX12_tear wsJx4a65c_init_da8c8 := goodIn_r _ [10, 11, 12, 13, 14, 15, 16, 17, 18, 19, 20, 21, 22, 23, 24, 37, 38, 39] (by decide +kernel) (by decide +kernel)
set_option maxRecDepth 20000 in
theorem gX12_tear_Jx4a65c_init_da8c8 : GoodIn wsX12_tear (wsJx4a65c_init_da8c8) := ggX12_tear_Jx4a65c_init_da8c8
theorem dX12_tear_0 : decode cX12_tear 0 = .ok (.aload_n 0, 1) := by decide +kernel
theorem dX12_tear_1 : decode cX12_tear 1 = .ok (.getfield 100, 3) := by decide +kernel
theorem dX12_tear_4 : decode cX12_tear 4 = .ok (.istore_n 1, 1) := by decide +kernel
theorem dX12_tear_5 : decode cX12_tear 5 = .ok (.aload_n 0, 1) := by decide +kernel
theorem dX12_tear_6 : decode cX12_tear 6 = .ok (.dup, 1) := by decide +kernel
theorem dX12_tear_7 : decode cX12_tear 7 = .ok (.getfield 112, 3) := by decide +kernel
theorem dX12_tear_10 : decode cX12_tear 10 = .ok (.iload_n 1, 1) := by decide +kernel
theorem dX12_tear_11 : decode cX12_tear 11 = .ok (.iadd, 1) := by decide +kernel
theorem dX12_tear_12 : decode cX12_tear 12 = .ok (.putfield 112, 3) := by decide +kernel
theorem dX12_tear_15 : decode cX12_tear 15 = .ok (.aload_n 0, 1) := by decide +kernel
theorem dX12_tear_16 : decode cX12_tear 16 = .ok (.iconst 0, 1) := by decide +kernel
theorem dX12_tear_17 : decode cX12_tear 17 = .ok (.putfield 100, 3) := by decide +kernel
theorem dX12_tear_20 : decode cX12_tear 20 = .ok (.aload_n 0, 1) := by decide +kernel
theorem dX12_tear_21 : decode cX12_tear 21 = .ok (.new 19, 3) := by decide +kernel
theorem dX12_tear_24 : decode cX12_tear 24 = .ok (.dup, 1) := by decide +kernel
theorem dX12_tear_25 : decode cX12_tear 25 = .ok (.invokespecial 21, 3) := by decide +kernel
theorem dX12_tear_28 : decode cX12_tear 28 = .ok (.putfield 26, 3) := by decide +kernel
theorem dX12_tear_31 : decode cX12_tear 31 = .ok (.aload_n 0, 1) := by decide +kernel
theorem dX12_tear_32 : decode cX12_tear 32 = .ok (.dup, 1) := by decide +kernel
theorem dX12_tear_33 : decode cX12_tear 33 = .ok (.getfield 115, 3) := by decide +kernel
theorem dX12_tear_36 : decode cX12_tear 36 = .ok (.iconst 1, 1) := by decide +kernel
theorem dX12_tear_37 : decode cX12_tear 37 = .ok (.iadd, 1) := by decide +kernel
theorem dX12_tear_38 : decode cX12_tear 38 = .ok (.putfield 115, 3) := by decide +kernel
theorem dX12_tear_41 : decode cX12_tear 41 = .ok (.iload_n 1, 1) := by decide +kernel
theorem dX12_tear_42 : decode cX12_tear 42 = .ok (.ireturn, 1) := by decide +kernel
set_option maxRecDepth 20000 in
theorem ggX12_goes_X12_isOver : GoodIn wsX12_goes wsX12_isOver := goodIn_r _ [5, 6, 7, 8, 4, 9, 10, 11, 12, 13, 14, 15, 16, 17, 18, 19, 20, 21, 22, 23, 24, 25, 26, 27, 28, 29, 30, 31, 32, 33, 34, 148, 149, 150, 151, 152, 153, 154, 155, 156, 157, 158, 159, 160, 161, 162] (by decide +kernel) (by decide +kernel)
set_option maxRecDepth 20000 in
theorem gX12_goes_X12_isOver : GoodIn wsX12_goes (wsV RX12 118 RX12 yX12_isOver wsX12_isOver) := goodIn_app (goodIn_of _ (by decide +kernel)) ggX12_goes_X12_isOver
set_option maxRecDepth 20000 in
theorem ggX12_goes_X12_merge : GoodIn wsX12_goes wsX12_merge := goodIn_r _ [38, 39, 40, 41, 42, 43, 44, 45, 46, 10, 47, 48, 15, 49, 50, 51, 52, 4, 53, 11, 54, 55, 56, 57, 58, 59, 60, 61, 62, 63, 64, 34, 65, 66, 67, 68, 69, 70, 71, 72, 73, 74, 75, 76, 12, 13, 14, 16, 17, 18, 19, 20, 21, 22, 23, 24, 25, 26, 27, 28, 29, 30, 31, 32, 33, 77, 78, 79, 80, 81, 82, 83, 84, 85, 86, 87, 88, 89, 90, 91, 92, 93, 94, 95, 96, 97, 98, 99, 100, 101, 102, 103, 104, 105, 106, 107, 108, 109, 110, 111, 112, 113, 114, 115, 116, 117, 118, 119, 120, 121, 122, 123, 124, 125, 126, 127, 128, 129, 130, 131, 132, 133, 134, 135, 136, 137, 138, 139, 140, 141, 142, 143, 144, 145, 146, 147, 148, 149, 150, 151, 152, 153, 154, 155, 156, 157, 158, 159, 160, 161, 162, 163, 164, 165, 166, 167, 168, 169, 170, 171, 172, 173, 174, 175, 176] (by decide +kernel) (by decide +kernel)
set_option maxRecDepth 20000 in
theorem gX12_goes_X12_merge : GoodIn wsX12_goes (wsV RX12 121 RX12 yX12_merge wsX12_merge) := goodIn_app (goodIn_of _ (by decide +kernel)) ggX12_goes_X12_merge
theorem dX12_goes_0 : decode cX12_goes 0 = .ok (.aload_n 0, 1) := by decide +kernel
theorem dX12_goes_1 : decode cX12_goes 1 = .ok (.invokevirtual 118, 3) := by decide +kernel
theorem dX12_goes_4 : decode cX12_goes 4 = .ok (.ifCond .ne 10, 3) := by decide +kernel
theorem dX12_goes_7 : decode cX12_goes 7 = .ok (.aload_n 0, 1) := by decide +kernel
theorem dX12_goes_8 : decode cX12_goes 8 = .ok (.invokevirtual 121, 3) := by decide +kernel
theorem dX12_goes_11 : decode cX12_goes 11 = .ok (.goto (-11), 3) := by decide +kernel
theorem dX12_goes_14 : decode cX12_goes 14 = .ok (.return_, 1) := by decide +kernel
set_option maxRecDepth 20000 in
theorem ggX12_result_Jx4a65c_size_8abf5 : GoodIn wsX12_result wsJx4a65c_size_8abf5 := goodIn_r _ [9, 10, 44, 45, 46] (by decide +kernel) (by decide +kernel)
set_option maxRecDepth 20000 in
theorem gX12_result_Jx4a65c_size_8abf5_f54Jx4a65c : GoodIn wsX12_result (va_wsF RX12 54 RJx4a65c ⟨"java/util/List", "size", "()I"⟩ yJx4a65c_size_8abf5 wsJx4a65c_size_8abf5) := goodIn_app (goodIn_of _ (by decide +kernel)) ggX12_result_Jx4a65c_size_8abf5
set_option maxRecDepth 20000 in
theorem ggX12_result_Jx4a65c_get_915e3 : GoodIn wsX12_result wsJx4a65c_get_915e3 := goodIn_r _ [14, 10, 15, 16, 17, 18, 19, 20, 21, 22, 23, 24, 25, 8, 26, 27, 44, 45, 46] (by decide +kernel) (by decide +kernel)
set_option maxRecDepth 20000 in
theorem gX12_result_Jx4a65c_get_915e3_f65Jx4a65c : GoodIn wsX12_result (va_wsF RX12 65 RJx4a65c ⟨"java/util/List", "get", "(I)Ljava/lang/Object;"⟩ yJx4a65c_get_915e3 wsJx4a65c_get_915e3) := goodIn_app (goodIn_of _ (by decide +kernel)) ggX12_result_Jx4a65c_get_915e3
set_option maxRecDepth 20000 in
theorem ggX12_result_Jx4a65c_isEmpty_aae02 : GoodIn wsX12_result wsJx4a65c_isEmpty_aae02 := goodIn_r _ [31, 10, 44, 45, 46] (by decide +kernel) (by decide +kernel)
set_option maxRecDepth 20000 in
theorem gX12_result_Jx4a65c_isEmpty_aae02_f61Jx4a65c : GoodIn wsX12_result (va_wsF RX12 61 RJx4a65c ⟨"java/util/List", "isEmpty", "()Z"⟩ yJx4a65c_isEmpty_aae02 wsJx4a65c_isEmpty_aae02) := goodIn_app (goodIn_of _ (by decide +kernel)) ggX12_result_Jx4a65c_isEmpty_aae02
theorem dX12_result_0 : decode cX12_result 0 = .ok (.iconst 0, 1) := by decide +kernel
theorem dX12_result_1 : decode cX12_result 1 = .ok (.istore_n 1, 1) := by decide +kernel
theorem dX12_result_2 : decode cX12_result 2 = .ok (.iload_n 1, 1) := by decide +kernel
theorem dX12_result_3 : decode cX12_result 3 = .ok (.aload_n 0, 1) := by decide +kernel
theorem dX12_result_4 : decode cX12_result 4 = .ok (.getfield 22, 3) := by decide +kernel
theorem dX12_result_7 : decode cX12_result 7 = .ok (.invokeinterface 54 1, 5) := by decide +kernel
theorem dX12_result_12 : decode cX12_result 12 = .ok (.if_icmp .ge 53, 3) := by decide +kernel
theorem dX12_result_15 : decode cX12_result 15 = .ok (.aload_n 0, 1) := by decide +kernel
theorem dX12_result_16 : decode cX12_result 16 = .ok (.getfield 22, 3) := by decide +kernel
theorem dX12_result_19 : decode cX12_result 19 = .ok (.iload_n 1, 1) := by decide +kernel
theorem dX12_result_20 : decode cX12_result 20 = .ok (.invokeinterface 65 2, 5) := by decide +kernel
theorem dX12_result_25 : decode cX12_result 25 = .ok (.checkcast 45, 3) := by decide +kernel
theorem dX12_result_28 : decode cX12_result 28 = .ok (.invokeinterface 61 1, 5) := by decide +kernel
theorem dX12_result_33 : decode cX12_result 33 = .ok (.ifCond .ne 26, 3) := by decide +kernel
theorem dX12_result_36 : decode cX12_result 36 = .ok (.aload_n 0, 1) := by decide +kernel
theorem dX12_result_37 : decode cX12_result 37 = .ok (.getfield 22, 3) := by decide +kernel
theorem dX12_result_40 : decode cX12_result 40 = .ok (.iload_n 1, 1) := by decide +kernel
theorem dX12_result_41 : decode cX12_result 41 = .ok (.invokeinterface 65 2, 5) := by decide +kernel
theorem dX12_result_46 : decode cX12_result 46 = .ok (.checkcast 45, 3) := by decide +kernel
theorem dX12_result_49 : decode cX12_result 49 = .ok (.iconst 0, 1) := by decide +kernel
theorem dX12_result_50 : decode cX12_result 50 = .ok (.invokeinterface 65 2, 5) := by decide +kernel
theorem dX12_result_55 : decode cX12_result 55 = .ok (.checkcast 69, 3) := by decide +kernel
theorem dX12_result_58 : decode cX12_result 58 = .ok (.areturn, 1) := by decide +kernel
theorem dX12_result_59 : decode cX12_result 59 = .ok (.iinc 1 1, 3) := by decide +kernel
theorem dX12_result_62 : decode cX12_result 62 = .ok (.goto (-60), 3) := by decide +kernel
theorem dX12_result_65 : decode cX12_result 65 = .ok (.iconst 0, 1) := by decide +kernel
theorem dX12_result_66 : decode cX12_result 66 = .ok (.newarray .int, 2) := by decide +kernel
theorem dX12_result_68 : decode cX12_result 68 = .ok (.areturn, 1) := by decide +kernel
theorem dX13_thrown_0 : decode cX13_thrown 0 = .ok (.aload_n 0, 1) := by decide +kernel
theorem dX13_thrown_1 : decode cX13_thrown 1 = .ok (.getfield 1, 3) := by decide +kernel
theorem dX13_thrown_4 : decode cX13_thrown 4 = .ok (.ireturn, 1) := by decide +kernel
theorem dX13_in_0 : decode cX13_in 0 = .ok (.iload_n 0, 1) := by decide +kernel
theorem dX13_in_1 : decode cX13_in 1 = .ok (.iload_n 1, 1) := by decide +kernel
theorem dX13_in_2 : decode cX13_in 2 = .ok (.if_icmp .lt 12, 3) := by decide +kernel
theorem dX13_in_5 : decode cX13_in 5 = .ok (.iload_n 0, 1) := by decide +kernel
theorem dX13_in_6 : decode cX13_in 6 = .ok (.iload_n 2, 1) := by decide +kernel
theorem dX13_in_7 : decode cX13_in 7 = .ok (.if_icmp .gt 7, 3) := by decide +kernel
theorem dX13_in_10 : decode cX13_in 10 = .ok (.iconst 1, 1) := by decide +kernel
theorem dX13_in_11 : decode cX13_in 11 = .ok (.goto 4, 3) := by decide +kernel
theorem dX13_in_14 : decode cX13_in 14 = .ok (.iconst 0, 1) := by decide +kernel
theorem dX13_in_15 : decode cX13_in 15 = .ok (.ireturn, 1) := by decide +kernel
theorem dX13_passes_0 : decode cX13_passes 0 = .ok (.aload_n 0, 1) := by decide +kernel
theorem dX13_passes_1 : decode cX13_passes 1 = .ok (.iload_n 1, 1) := by decide +kernel
theorem dX13_passes_2 : decode cX13_passes 2 = .ok (.ifCond .ne 7, 3) := by decide +kernel
theorem dX13_passes_5 : decode cX13_passes 5 = .ok (.iconst 1, 1) := by decide +kernel
theorem dX13_passes_6 : decode cX13_passes 6 = .ok (.goto 20, 3) := by decide +kernel
theorem dX13_passes_9 : decode cX13_passes 9 = .ok (.iload_n 2, 1) := by decide +kernel
theorem dX13_passes_10 : decode cX13_passes 10 = .ok (.ifCond .ne 7, 3) := by decide +kernel
theorem dX13_passes_13 : decode cX13_passes 13 = .ok (.iconst 2, 1) := by decide +kernel
theorem dX13_passes_14 : decode cX13_passes 14 = .ok (.goto 12, 3) := by decide +kernel
theorem dX13_passes_17 : decode cX13_passes 17 = .ok (.iload_n 3, 1) := by decide +kernel
theorem dX13_passes_18 : decode cX13_passes 18 = .ok (.ifCond .ne 7, 3) := by decide +kernel
theorem dX13_passes_21 : decode cX13_passes 21 = .ok (.iconst 3, 1) := by decide +kernel
theorem dX13_passes_22 : decode cX13_passes 22 = .ok (.goto 4, 3) := by decide +kernel
theorem dX13_passes_25 : decode cX13_passes 25 = .ok (.iconst 0, 1) := by decide +kernel
theorem dX13_passes_26 : decode cX13_passes 26 = .ok (.putfield 1, 3) := by decide +kernel
theorem dX13_passes_29 : decode cX13_passes 29 = .ok (.aload_n 0, 1) := by decide +kernel
theorem dX13_passes_30 : decode cX13_passes 30 = .ok (.getfield 1, 3) := by decide +kernel
theorem dX13_passes_33 : decode cX13_passes 33 = .ok (.ifCond .ne 7, 3) := by decide +kernel
theorem dX13_passes_36 : decode cX13_passes 36 = .ok (.iconst 1, 1) := by decide +kernel
theorem dX13_passes_37 : decode cX13_passes 37 = .ok (.goto 4, 3) := by decide +kernel
theorem dX13_passes_40 : decode cX13_passes 40 = .ok (.iconst 0, 1) := by decide +kernel
theorem dX13_passes_41 : decode cX13_passes 41 = .ok (.ireturn, 1) := by decide +kernel
set_option maxRecDepth 20000 in
theorem ggX13_isTape_X13_in : GoodIn wsX13_isTape wsX13_in := goodIn_r _ [4] (by decide +kernel) (by decide +kernel)
set_option maxRecDepth 20000 in
theorem gX13_isTape_X13_in : GoodIn wsX13_isTape (va_wsS RX13 7 yX13_in wsX13_in) := goodIn_app (goodIn_of _ (by decide +kernel)) ggX13_isTape_X13_in
theorem dX13_isTape_0 : decode cX13_isTape 0 = .ok (.iload_n 0, 1) := by decide +kernel
theorem dX13_isTape_1 : decode cX13_isTape 1 = .ok (.iconst 0, 1) := by decide +kernel
theorem dX13_isTape_2 : decode cX13_isTape 2 = .ok (.bipush 7, 2) := by decide +kernel
theorem dX13_isTape_4 : decode cX13_isTape 4 = .ok (.invokestatic 7, 3) := by decide +kernel
theorem dX13_isTape_7 : decode cX13_isTape 7 = .ok (.ireturn, 1) := by decide +kernel
theorem dX13_isBefore_0 : decode cX13_isBefore 0 = .ok (.aload_n 0, 1) := by decide +kernel
theorem dX13_isBefore_1 : decode cX13_isBefore 1 = .ok (.getfield 11, 3) := by decide +kernel
theorem dX13_isBefore_4 : decode cX13_isBefore 4 = .ok (.iload_n 1, 1) := by decide +kernel
theorem dX13_isBefore_5 : decode cX13_isBefore 5 = .ok (.iaload, 1) := by decide +kernel
theorem dX13_isBefore_6 : decode cX13_isBefore 6 = .ok (.aload_n 0, 1) := by decide +kernel
theorem dX13_isBefore_7 : decode cX13_isBefore 7 = .ok (.getfield 11, 3) := by decide +kernel
theorem dX13_isBefore_10 : decode cX13_isBefore 10 = .ok (.iload_n 2, 1) := by decide +kernel
theorem dX13_isBefore_11 : decode cX13_isBefore 11 = .ok (.iaload, 1) := by decide +kernel
theorem dX13_isBefore_12 : decode cX13_isBefore 12 = .ok (.if_icmp .eq 51, 3) := by decide +kernel
theorem dX13_isBefore_15 : decode cX13_isBefore 15 = .ok (.iload_n 3, 1) := by decide +kernel
theorem dX13_isBefore_16 : decode cX13_isBefore 16 = .ok (.ifCond .ne 26, 3) := by decide +kernel
theorem dX13_isBefore_19 : decode cX13_isBefore 19 = .ok (.aload_n 0, 1) := by decide +kernel
theorem dX13_isBefore_20 : decode cX13_isBefore 20 = .ok (.getfield 11, 3) := by decide +kernel
theorem dX13_isBefore_23 : decode cX13_isBefore 23 = .ok (.iload_n 1, 1) := by decide +kernel
theorem dX13_isBefore_24 : decode cX13_isBefore 24 = .ok (.iaload, 1) := by decide +kernel
theorem dX13_isBefore_25 : decode cX13_isBefore 25 = .ok (.aload_n 0, 1) := by decide +kernel
theorem dX13_isBefore_26 : decode cX13_isBefore 26 = .ok (.getfield 11, 3) := by decide +kernel
theorem dX13_isBefore_29 : decode cX13_isBefore 29 = .ok (.iload_n 2, 1) := by decide +kernel
theorem dX13_isBefore_30 : decode cX13_isBefore 30 = .ok (.iaload, 1) := by decide +kernel
theorem dX13_isBefore_31 : decode cX13_isBefore 31 = .ok (.if_icmp .ge 7, 3) := by decide +kernel
theorem dX13_isBefore_34 : decode cX13_isBefore 34 = .ok (.iconst 1, 1) := by decide +kernel
theorem dX13_isBefore_35 : decode cX13_isBefore 35 = .ok (.goto 27, 3) := by decide +kernel
theorem dX13_isBefore_38 : decode cX13_isBefore 38 = .ok (.iconst 0, 1) := by decide +kernel
theorem dX13_isBefore_39 : decode cX13_isBefore 39 = .ok (.goto 23, 3) := by decide +kernel
theorem dX13_isBefore_42 : decode cX13_isBefore 42 = .ok (.aload_n 0, 1) := by decide +kernel
theorem dX13_isBefore_43 : decode cX13_isBefore 43 = .ok (.getfield 11, 3) := by decide +kernel
theorem dX13_isBefore_46 : decode cX13_isBefore 46 = .ok (.iload_n 1, 1) := by decide +kernel
theorem dX13_isBefore_47 : decode cX13_isBefore 47 = .ok (.iaload, 1) := by decide +kernel
theorem dX13_isBefore_48 : decode cX13_isBefore 48 = .ok (.aload_n 0, 1) := by decide +kernel
theorem dX13_isBefore_49 : decode cX13_isBefore 49 = .ok (.getfield 11, 3) := by decide +kernel
theorem dX13_isBefore_52 : decode cX13_isBefore 52 = .ok (.iload_n 2, 1) := by decide +kernel
theorem dX13_isBefore_53 : decode cX13_isBefore 53 = .ok (.iaload, 1) := by decide +kernel
theorem dX13_isBefore_54 : decode cX13_isBefore 54 = .ok (.if_icmp .le 7, 3) := by decide +kernel
theorem dX13_isBefore_57 : decode cX13_isBefore 57 = .ok (.iconst 1, 1) := by decide +kernel
theorem dX13_isBefore_58 : decode cX13_isBefore 58 = .ok (.goto 4, 3) := by decide +kernel
theorem dX13_isBefore_61 : decode cX13_isBefore 61 = .ok (.iconst 0, 1) := by decide +kernel
theorem dX13_isBefore_62 : decode cX13_isBefore 62 = .ok (.ireturn, 1) := by decide +kernel
theorem dX13_isBefore_63 : decode cX13_isBefore 63 = .ok (.iload_n 1, 1) := by decide +kernel
theorem dX13_isBefore_64 : decode cX13_isBefore 64 = .ok (.iload_n 2, 1) := by decide +kernel
theorem dX13_isBefore_65 : decode cX13_isBefore 65 = .ok (.if_icmp .ge 7, 3) := by decide +kernel
theorem dX13_isBefore_68 : decode cX13_isBefore 68 = .ok (.iconst 1, 1) := by decide +kernel
theorem dX13_isBefore_69 : decode cX13_isBefore 69 = .ok (.goto 4, 3) := by decide +kernel
theorem dX13_isBefore_72 : decode cX13_isBefore 72 = .ok (.iconst 0, 1) := by decide +kernel
theorem dX13_isBefore_73 : decode cX13_isBefore 73 = .ok (.ireturn, 1) := by decide +kernel
set_option maxRecDepth 20000 in
theorem ggX13_inserts_X13_isBefore : GoodIn wsX13_inserts wsX13_isBefore := goodIn_r _ [5, 6, 7, 8, 9, 10, 11, 12, 13, 14, 15, 16, 17, 18, 19, 20] (by decide +kernel) (by decide +kernel)
set_option maxRecDepth 20000 in
theorem gX13_inserts_X13_isBefore : GoodIn wsX13_inserts (wsV RX13 15 RX13 yX13_isBefore wsX13_isBefore) := goodIn_app (goodIn_of _ (by decide +kernel)) ggX13_inserts_X13_isBefore
theorem dX13_inserts_0 : decode cX13_inserts 0 = .ok (.iconst 1, 1) := by decide +kernel
theorem dX13_inserts_1 : decode cX13_inserts 1 = .ok (.istore_n 3, 1) := by decide +kernel
theorem dX13_inserts_2 : decode cX13_inserts 2 = .ok (.iload_n 3, 1) := by decide +kernel
theorem dX13_inserts_3 : decode cX13_inserts 3 = .ok (.aload_n 1, 1) := by decide +kernel
theorem dX13_inserts_4 : decode cX13_inserts 4 = .ok (.arraylength, 1) := by decide +kernel
theorem dX13_inserts_5 : decode cX13_inserts 5 = .ok (.if_icmp .ge 60, 3) := by decide +kernel
theorem dX13_inserts_8 : decode cX13_inserts 8 = .ok (.aload_n 1, 1) := by decide +kernel
theorem dX13_inserts_9 : decode cX13_inserts 9 = .ok (.iload_n 3, 1) := by decide +kernel
theorem dX13_inserts_10 : decode cX13_inserts 10 = .ok (.iaload, 1) := by decide +kernel
theorem dX13_inserts_11 : decode cX13_inserts 11 = .ok (.istore 4, 2) := by decide +kernel
theorem dX13_inserts_13 : decode cX13_inserts 13 = .ok (.iload_n 3, 1) := by decide +kernel
theorem dX13_inserts_14 : decode cX13_inserts 14 = .ok (.istore 5, 2) := by decide +kernel
theorem dX13_inserts_16 : decode cX13_inserts 16 = .ok (.iload 5, 2) := by decide +kernel
theorem dX13_inserts_18 : decode cX13_inserts 18 = .ok (.ifCond .le 35, 3) := by decide +kernel
theorem dX13_inserts_21 : decode cX13_inserts 21 = .ok (.aload_n 0, 1) := by decide +kernel
theorem dX13_inserts_22 : decode cX13_inserts 22 = .ok (.iload 4, 2) := by decide +kernel
theorem dX13_inserts_24 : decode cX13_inserts 24 = .ok (.aload_n 1, 1) := by decide +kernel
theorem dX13_inserts_25 : decode cX13_inserts 25 = .ok (.iload 5, 2) := by decide +kernel
theorem dX13_inserts_27 : decode cX13_inserts 27 = .ok (.iconst 1, 1) := by decide +kernel
theorem dX13_inserts_28 : decode cX13_inserts 28 = .ok (.isub, 1) := by decide +kernel
theorem dX13_inserts_29 : decode cX13_inserts 29 = .ok (.iaload, 1) := by decide +kernel
theorem dX13_inserts_30 : decode cX13_inserts 30 = .ok (.iload_n 2, 1) := by decide +kernel
theorem dX13_inserts_31 : decode cX13_inserts 31 = .ok (.invokevirtual 15, 3) := by decide +kernel
theorem dX13_inserts_34 : decode cX13_inserts 34 = .ok (.ifCond .eq 19, 3) := by decide +kernel
theorem dX13_inserts_37 : decode cX13_inserts 37 = .ok (.aload_n 1, 1) := by decide +kernel
theorem dX13_inserts_38 : decode cX13_inserts 38 = .ok (.iload 5, 2) := by decide +kernel
theorem dX13_inserts_40 : decode cX13_inserts 40 = .ok (.aload_n 1, 1) := by decide +kernel
theorem dX13_inserts_41 : decode cX13_inserts 41 = .ok (.iload 5, 2) := by decide +kernel
theorem dX13_inserts_43 : decode cX13_inserts 43 = .ok (.iconst 1, 1) := by decide +kernel
theorem dX13_inserts_44 : decode cX13_inserts 44 = .ok (.isub, 1) := by decide +kernel
theorem dX13_inserts_45 : decode cX13_inserts 45 = .ok (.iaload, 1) := by decide +kernel
theorem dX13_inserts_46 : decode cX13_inserts 46 = .ok (.iastore, 1) := by decide +kernel
theorem dX13_inserts_47 : decode cX13_inserts 47 = .ok (.iinc 5 (-1), 3) := by decide +kernel
theorem dX13_inserts_50 : decode cX13_inserts 50 = .ok (.goto (-34), 3) := by decide +kernel
theorem dX13_inserts_53 : decode cX13_inserts 53 = .ok (.aload_n 1, 1) := by decide +kernel
theorem dX13_inserts_54 : decode cX13_inserts 54 = .ok (.iload 5, 2) := by decide +kernel
theorem dX13_inserts_56 : decode cX13_inserts 56 = .ok (.iload 4, 2) := by decide +kernel
theorem dX13_inserts_58 : decode cX13_inserts 58 = .ok (.iastore, 1) := by decide +kernel
theorem dX13_inserts_59 : decode cX13_inserts 59 = .ok (.iinc 3 1, 3) := by decide +kernel
theorem dX13_inserts_62 : decode cX13_inserts 62 = .ok (.goto (-60), 3) := by decide +kernel
theorem dX13_inserts_65 : decode cX13_inserts 65 = .ok (.return_, 1) := by decide +kernel
set_option maxRecDepth 20000 in
theorem ggX13_isInOrder_X13_isBefore : GoodIn wsX13_isInOrder wsX13_isBefore := goodIn_r _ [5, 6, 7, 8, 9, 10, 11, 12, 13, 14, 15, 16, 17, 18, 19, 20] (by decide +kernel) (by decide +kernel)
set_option maxRecDepth 20000 in
theorem gX13_isInOrder_X13_isBefore : GoodIn wsX13_isInOrder (wsV RX13 15 RX13 yX13_isBefore wsX13_isBefore) := goodIn_app (goodIn_of _ (by decide +kernel)) ggX13_isInOrder_X13_isBefore
theorem dX13_isInOrder_0 : decode cX13_isInOrder 0 = .ok (.iconst 1, 1) := by decide +kernel
theorem dX13_isInOrder_1 : decode cX13_isInOrder 1 = .ok (.istore_n 3, 1) := by decide +kernel
theorem dX13_isInOrder_2 : decode cX13_isInOrder 2 = .ok (.iload_n 3, 1) := by decide +kernel
theorem dX13_isInOrder_3 : decode cX13_isInOrder 3 = .ok (.aload_n 1, 1) := by decide +kernel
theorem dX13_isInOrder_4 : decode cX13_isInOrder 4 = .ok (.arraylength, 1) := by decide +kernel
theorem dX13_isInOrder_5 : decode cX13_isInOrder 5 = .ok (.if_icmp .ge 27, 3) := by decide +kernel
theorem dX13_isInOrder_8 : decode cX13_isInOrder 8 = .ok (.aload_n 0, 1) := by decide +kernel
theorem dX13_isInOrder_9 : decode cX13_isInOrder 9 = .ok (.aload_n 1, 1) := by decide +kernel
theorem dX13_isInOrder_10 : decode cX13_isInOrder 10 = .ok (.iload_n 3, 1) := by decide +kernel
theorem dX13_isInOrder_11 : decode cX13_isInOrder 11 = .ok (.iaload, 1) := by decide +kernel
theorem dX13_isInOrder_12 : decode cX13_isInOrder 12 = .ok (.aload_n 1, 1) := by decide +kernel
theorem dX13_isInOrder_13 : decode cX13_isInOrder 13 = .ok (.iload_n 3, 1) := by decide +kernel
theorem dX13_isInOrder_14 : decode cX13_isInOrder 14 = .ok (.iconst 1, 1) := by decide +kernel
theorem dX13_isInOrder_15 : decode cX13_isInOrder 15 = .ok (.isub, 1) := by decide +kernel
theorem dX13_isInOrder_16 : decode cX13_isInOrder 16 = .ok (.iaload, 1) := by decide +kernel
theorem dX13_isInOrder_17 : decode cX13_isInOrder 17 = .ok (.iload_n 2, 1) := by decide +kernel
theorem dX13_isInOrder_18 : decode cX13_isInOrder 18 = .ok (.invokevirtual 15, 3) := by decide +kernel
theorem dX13_isInOrder_21 : decode cX13_isInOrder 21 = .ok (.ifCond .eq 5, 3) := by decide +kernel
theorem dX13_isInOrder_24 : decode cX13_isInOrder 24 = .ok (.iconst 0, 1) := by decide +kernel
theorem dX13_isInOrder_25 : decode cX13_isInOrder 25 = .ok (.ireturn, 1) := by decide +kernel
theorem dX13_isInOrder_26 : decode cX13_isInOrder 26 = .ok (.iinc 3 1, 3) := by decide +kernel
theorem dX13_isInOrder_29 : decode cX13_isInOrder 29 = .ok (.goto (-27), 3) := by decide +kernel
theorem dX13_isInOrder_32 : decode cX13_isInOrder 32 = .ok (.iconst 1, 1) := by decide +kernel
theorem dX13_isInOrder_33 : decode cX13_isInOrder 33 = .ok (.ireturn, 1) := by decide +kernel
theorem dX13_init_0 : decode cX13_init 0 = .ok (.aload_n 0, 1) := by decide +kernel
theorem dX13_init_1 : decode cX13_init 1 = .ok (.invokespecial 18, 3) := by decide +kernel
theorem dX13_init_4 : decode cX13_init 4 = .ok (.aload_n 0, 1) := by decide +kernel
theorem dX13_init_5 : decode cX13_init 5 = .ok (.sipush 200, 3) := by decide +kernel
theorem dX13_init_8 : decode cX13_init 8 = .ok (.newarray .int, 2) := by decide +kernel
theorem dX13_init_10 : decode cX13_init 10 = .ok (.putfield 11, 3) := by decide +kernel
theorem dX13_init_13 : decode cX13_init 13 = .ok (.aload_n 0, 1) := by decide +kernel
theorem dX13_init_14 : decode cX13_init 14 = .ok (.sipush 200, 3) := by decide +kernel
theorem dX13_init_17 : decode cX13_init 17 = .ok (.newarray .int, 2) := by decide +kernel
theorem dX13_init_19 : decode cX13_init 19 = .ok (.putfield 24, 3) := by decide +kernel
theorem dX13_init_22 : decode cX13_init 22 = .ok (.aload_n 0, 1) := by decide +kernel
theorem dX13_init_23 : decode cX13_init 23 = .ok (.bipush 8, 2) := by decide +kernel
theorem dX13_init_25 : decode cX13_init 25 = .ok (.iconst 0, 1) := by decide +kernel
theorem dX13_init_26 : decode cX13_init 26 = .ok (.multianewarray 27 2, 4) := by decide +kernel
theorem dX13_init_30 : decode cX13_init 30 = .ok (.putfield 29, 3) := by decide +kernel
theorem dX13_init_33 : decode cX13_init 33 = .ok (.aload_n 0, 1) := by decide +kernel
theorem dX13_init_34 : decode cX13_init 34 = .ok (.bipush 8, 2) := by decide +kernel
theorem dX13_init_36 : decode cX13_init 36 = .ok (.iconst 0, 1) := by decide +kernel
theorem dX13_init_37 : decode cX13_init 37 = .ok (.multianewarray 27 2, 4) := by decide +kernel
theorem dX13_init_41 : decode cX13_init 41 = .ok (.putfield 32, 3) := by decide +kernel
theorem dX13_init_44 : decode cX13_init 44 = .ok (.aload_n 0, 1) := by decide +kernel
theorem dX13_init_45 : decode cX13_init 45 = .ok (.iconst 5, 1) := by decide +kernel
theorem dX13_init_46 : decode cX13_init 46 = .ok (.newarray .int, 2) := by decide +kernel
theorem dX13_init_48 : decode cX13_init 48 = .ok (.dup, 1) := by decide +kernel
theorem dX13_init_49 : decode cX13_init 49 = .ok (.iconst 0, 1) := by decide +kernel
theorem dX13_init_50 : decode cX13_init 50 = .ok (.iconst 0, 1) := by decide +kernel
theorem dX13_init_51 : decode cX13_init 51 = .ok (.iastore, 1) := by decide +kernel
theorem dX13_init_52 : decode cX13_init 52 = .ok (.dup, 1) := by decide +kernel
theorem dX13_init_53 : decode cX13_init 53 = .ok (.iconst 1, 1) := by decide +kernel
theorem dX13_init_54 : decode cX13_init 54 = .ok (.iconst 1, 1) := by decide +kernel
theorem dX13_init_55 : decode cX13_init 55 = .ok (.iastore, 1) := by decide +kernel
theorem dX13_init_56 : decode cX13_init 56 = .ok (.dup, 1) := by decide +kernel
theorem dX13_init_57 : decode cX13_init 57 = .ok (.iconst 2, 1) := by decide +kernel
theorem dX13_init_58 : decode cX13_init 58 = .ok (.iconst 4, 1) := by decide +kernel
theorem dX13_init_59 : decode cX13_init 59 = .ok (.iastore, 1) := by decide +kernel
theorem dX13_init_60 : decode cX13_init 60 = .ok (.dup, 1) := by decide +kernel
theorem dX13_init_61 : decode cX13_init 61 = .ok (.iconst 3, 1) := by decide +kernel
theorem dX13_init_62 : decode cX13_init 62 = .ok (.iconst 0, 1) := by decide +kernel
theorem dX13_init_63 : decode cX13_init 63 = .ok (.iastore, 1) := by decide +kernel
theorem dX13_init_64 : decode cX13_init 64 = .ok (.dup, 1) := by decide +kernel
theorem dX13_init_65 : decode cX13_init 65 = .ok (.iconst 4, 1) := by decide +kernel
theorem dX13_init_66 : decode cX13_init 66 = .ok (.iconst 2, 1) := by decide +kernel
theorem dX13_init_67 : decode cX13_init 67 = .ok (.iastore, 1) := by decide +kernel
theorem dX13_init_68 : decode cX13_init 68 = .ok (.putfield 35, 3) := by decide +kernel
theorem dX13_init_71 : decode cX13_init 71 = .ok (.aload_n 0, 1) := by decide +kernel
theorem dX13_init_72 : decode cX13_init 72 = .ok (.sipush 160, 3) := by decide +kernel
theorem dX13_init_75 : decode cX13_init 75 = .ok (.newarray .int, 2) := by decide +kernel
theorem dX13_init_77 : decode cX13_init 77 = .ok (.putfield 38, 3) := by decide +kernel
theorem dX13_init_80 : decode cX13_init 80 = .ok (.aload_n 0, 1) := by decide +kernel
theorem dX13_init_81 : decode cX13_init 81 = .ok (.iconst 0, 1) := by decide +kernel
theorem dX13_init_82 : decode cX13_init 82 = .ok (.putfield 41, 3) := by decide +kernel
theorem dX13_init_85 : decode cX13_init 85 = .ok (.return_, 1) := by decide +kernel
theorem dX13_comes_0 : decode cX13_comes 0 = .ok (.aload_n 0, 1) := by decide +kernel
theorem dX13_comes_1 : decode cX13_comes 1 = .ok (.getfield 11, 3) := by decide +kernel
theorem dX13_comes_4 : decode cX13_comes 4 = .ok (.aload_n 0, 1) := by decide +kernel
theorem dX13_comes_5 : decode cX13_comes 5 = .ok (.getfield 41, 3) := by decide +kernel
theorem dX13_comes_8 : decode cX13_comes 8 = .ok (.iload_n 2, 1) := by decide +kernel
theorem dX13_comes_9 : decode cX13_comes 9 = .ok (.iastore, 1) := by decide +kernel
theorem dX13_comes_10 : decode cX13_comes 10 = .ok (.aload_n 0, 1) := by decide +kernel
theorem dX13_comes_11 : decode cX13_comes 11 = .ok (.getfield 24, 3) := by decide +kernel
theorem dX13_comes_14 : decode cX13_comes 14 = .ok (.aload_n 0, 1) := by decide +kernel
theorem dX13_comes_15 : decode cX13_comes 15 = .ok (.getfield 41, 3) := by decide +kernel
theorem dX13_comes_18 : decode cX13_comes 18 = .ok (.iload_n 3, 1) := by decide +kernel
theorem dX13_comes_19 : decode cX13_comes 19 = .ok (.iastore, 1) := by decide +kernel
theorem dX13_comes_20 : decode cX13_comes 20 = .ok (.aload_n 0, 1) := by decide +kernel
theorem dX13_comes_21 : decode cX13_comes 21 = .ok (.getfield 29, 3) := by decide +kernel
theorem dX13_comes_24 : decode cX13_comes 24 = .ok (.iload_n 1, 1) := by decide +kernel
theorem dX13_comes_25 : decode cX13_comes 25 = .ok (.aaload, 1) := by decide +kernel
theorem dX13_comes_26 : decode cX13_comes 26 = .ok (.arraylength, 1) := by decide +kernel
theorem dX13_comes_27 : decode cX13_comes 27 = .ok (.iconst 1, 1) := by decide +kernel
theorem dX13_comes_28 : decode cX13_comes 28 = .ok (.iadd, 1) := by decide +kernel
theorem dX13_comes_29 : decode cX13_comes 29 = .ok (.newarray .int, 2) := by decide +kernel
theorem dX13_comes_31 : decode cX13_comes 31 = .ok (.astore 4, 2) := by decide +kernel
theorem dX13_comes_33 : decode cX13_comes 33 = .ok (.iconst 0, 1) := by decide +kernel
theorem dX13_comes_34 : decode cX13_comes 34 = .ok (.istore 5, 2) := by decide +kernel
theorem dX13_comes_36 : decode cX13_comes 36 = .ok (.iload 5, 2) := by decide +kernel
theorem dX13_comes_38 : decode cX13_comes 38 = .ok (.aload_n 0, 1) := by decide +kernel
theorem dX13_comes_39 : decode cX13_comes 39 = .ok (.getfield 29, 3) := by decide +kernel
theorem dX13_comes_42 : decode cX13_comes 42 = .ok (.iload_n 1, 1) := by decide +kernel
theorem dX13_comes_43 : decode cX13_comes 43 = .ok (.aaload, 1) := by decide +kernel
theorem dX13_comes_44 : decode cX13_comes 44 = .ok (.arraylength, 1) := by decide +kernel
theorem dX13_comes_45 : decode cX13_comes 45 = .ok (.if_icmp .ge 23, 3) := by decide +kernel
theorem dX13_comes_48 : decode cX13_comes 48 = .ok (.aload 4, 2) := by decide +kernel
theorem dX13_comes_50 : decode cX13_comes 50 = .ok (.iload 5, 2) := by decide +kernel
theorem dX13_comes_52 : decode cX13_comes 52 = .ok (.aload_n 0, 1) := by decide +kernel
theorem dX13_comes_53 : decode cX13_comes 53 = .ok (.getfield 29, 3) := by decide +kernel
theorem dX13_comes_56 : decode cX13_comes 56 = .ok (.iload_n 1, 1) := by decide +kernel
theorem dX13_comes_57 : decode cX13_comes 57 = .ok (.aaload, 1) := by decide +kernel
theorem dX13_comes_58 : decode cX13_comes 58 = .ok (.iload 5, 2) := by decide +kernel
theorem dX13_comes_60 : decode cX13_comes 60 = .ok (.iaload, 1) := by decide +kernel
theorem dX13_comes_61 : decode cX13_comes 61 = .ok (.iastore, 1) := by decide +kernel
theorem dX13_comes_62 : decode cX13_comes 62 = .ok (.iinc 5 1, 3) := by decide +kernel
theorem dX13_comes_65 : decode cX13_comes 65 = .ok (.goto (-29), 3) := by decide +kernel
theorem dX13_comes_68 : decode cX13_comes 68 = .ok (.aload 4, 2) := by decide +kernel
theorem dX13_comes_70 : decode cX13_comes 70 = .ok (.aload 4, 2) := by decide +kernel
theorem dX13_comes_72 : decode cX13_comes 72 = .ok (.arraylength, 1) := by decide +kernel
theorem dX13_comes_73 : decode cX13_comes 73 = .ok (.iconst 1, 1) := by decide +kernel
theorem dX13_comes_74 : decode cX13_comes 74 = .ok (.isub, 1) := by decide +kernel
theorem dX13_comes_75 : decode cX13_comes 75 = .ok (.aload_n 0, 1) := by decide +kernel
theorem dX13_comes_76 : decode cX13_comes 76 = .ok (.getfield 41, 3) := by decide +kernel
theorem dX13_comes_79 : decode cX13_comes 79 = .ok (.iastore, 1) := by decide +kernel
theorem dX13_comes_80 : decode cX13_comes 80 = .ok (.aload_n 0, 1) := by decide +kernel
theorem dX13_comes_81 : decode cX13_comes 81 = .ok (.getfield 29, 3) := by decide +kernel
theorem dX13_comes_84 : decode cX13_comes 84 = .ok (.iload_n 1, 1) := by decide +kernel
theorem dX13_comes_85 : decode cX13_comes 85 = .ok (.aload 4, 2) := by decide +kernel
theorem dX13_comes_87 : decode cX13_comes 87 = .ok (.aastore, 1) := by decide +kernel
theorem dX13_comes_88 : decode cX13_comes 88 = .ok (.aload_n 0, 1) := by decide +kernel
theorem dX13_comes_89 : decode cX13_comes 89 = .ok (.dup, 1) := by decide +kernel
theorem dX13_comes_90 : decode cX13_comes 90 = .ok (.getfield 41, 3) := by decide +kernel
theorem dX13_comes_93 : decode cX13_comes 93 = .ok (.iconst 1, 1) := by decide +kernel
theorem dX13_comes_94 : decode cX13_comes 94 = .ok (.iadd, 1) := by decide +kernel
theorem dX13_comes_95 : decode cX13_comes 95 = .ok (.putfield 41, 3) := by decide +kernel
theorem dX13_comes_98 : decode cX13_comes 98 = .ok (.return_, 1) := by decide +kernel
theorem dX13_haveRoom_0 : decode cX13_haveRoom 0 = .ok (.aload_n 0, 1) := by decide +kernel
theorem dX13_haveRoom_1 : decode cX13_haveRoom 1 = .ok (.getfield 41, 3) := by decide +kernel
theorem dX13_haveRoom_4 : decode cX13_haveRoom 4 = .ok (.iload_n 2, 1) := by decide +kernel
theorem dX13_haveRoom_5 : decode cX13_haveRoom 5 = .ok (.iadd, 1) := by decide +kernel
theorem dX13_haveRoom_6 : decode cX13_haveRoom 6 = .ok (.sipush 200, 3) := by decide +kernel
theorem dX13_haveRoom_9 : decode cX13_haveRoom 9 = .ok (.if_icmp .gt 21, 3) := by decide +kernel
theorem dX13_haveRoom_12 : decode cX13_haveRoom 12 = .ok (.aload_n 0, 1) := by decide +kernel
theorem dX13_haveRoom_13 : decode cX13_haveRoom 13 = .ok (.getfield 29, 3) := by decide +kernel
theorem dX13_haveRoom_16 : decode cX13_haveRoom 16 = .ok (.iload_n 1, 1) := by decide +kernel
theorem dX13_haveRoom_17 : decode cX13_haveRoom 17 = .ok (.aaload, 1) := by decide +kernel
theorem dX13_haveRoom_18 : decode cX13_haveRoom 18 = .ok (.arraylength, 1) := by decide +kernel
theorem dX13_haveRoom_19 : decode cX13_haveRoom 19 = .ok (.iload_n 2, 1) := by decide +kernel
theorem dX13_haveRoom_20 : decode cX13_haveRoom 20 = .ok (.iadd, 1) := by decide +kernel
theorem dX13_haveRoom_21 : decode cX13_haveRoom 21 = .ok (.bipush 100, 2) := by decide +kernel
theorem dX13_haveRoom_23 : decode cX13_haveRoom 23 = .ok (.if_icmp .gt 7, 3) := by decide +kernel
theorem dX13_haveRoom_26 : decode cX13_haveRoom 26 = .ok (.iconst 1, 1) := by decide +kernel
theorem dX13_haveRoom_27 : decode cX13_haveRoom 27 = .ok (.goto 4, 3) := by decide +kernel
theorem dX13_haveRoom_30 : decode cX13_haveRoom 30 = .ok (.iconst 0, 1) := by decide +kernel
theorem dX13_haveRoom_31 : decode cX13_haveRoom 31 = .ok (.ireturn, 1) := by decide +kernel
set_option maxRecDepth 20000 in
theorem ggX13_isKey_X13_in : GoodIn wsX13_isKey wsX13_in := goodIn_r _ [4] (by decide +kernel) (by decide +kernel)
set_option maxRecDepth 20000 in
theorem gX13_isKey_X13_in : GoodIn wsX13_isKey (va_wsS RX13 7 yX13_in wsX13_in) := goodIn_app (goodIn_of _ (by decide +kernel)) ggX13_isKey_X13_in
theorem dX13_isKey_0 : decode cX13_isKey 0 = .ok (.iload_n 0, 1) := by decide +kernel
theorem dX13_isKey_1 : decode cX13_isKey 1 = .ok (.sipush (-999), 3) := by decide +kernel
theorem dX13_isKey_4 : decode cX13_isKey 4 = .ok (.sipush 999, 3) := by decide +kernel
theorem dX13_isKey_7 : decode cX13_isKey 7 = .ok (.invokestatic 7, 3) := by decide +kernel
theorem dX13_isKey_10 : decode cX13_isKey 10 = .ok (.ireturn, 1) := by decide +kernel
set_option maxRecDepth 20000 in
theorem ggX13_put_X13_isTape : GoodIn wsX13_put wsX13_isTape := goodIn_r _ [5, 6, 7, 4, 8] (by decide +kernel) (by decide +kernel)
set_option maxRecDepth 20000 in
theorem gX13_put_X13_isTape : GoodIn wsX13_put (va_wsS RX13 44 yX13_isTape wsX13_isTape) := goodIn_app (goodIn_of _ (by decide +kernel)) ggX13_put_X13_isTape
set_option maxRecDepth 20000 in
theorem ggX13_put_X13_isKey : GoodIn wsX13_put wsX13_isKey := goodIn_r _ [11, 6, 7, 4, 8] (by decide +kernel) (by decide +kernel)
set_option maxRecDepth 20000 in
theorem gX13_put_X13_isKey : GoodIn wsX13_put (va_wsS RX13 48 yX13_isKey wsX13_isKey) := goodIn_app (goodIn_of _ (by decide +kernel)) ggX13_put_X13_isKey
set_option maxRecDepth 20000 in
theorem ggX13_put_X13_in : GoodIn wsX13_put wsX13_in := goodIn_r _ [8] (by decide +kernel) (by decide +kernel)
set_option maxRecDepth 20000 in
theorem gX13_put_X13_in : GoodIn wsX13_put (va_wsS RX13 7 yX13_in wsX13_in) := goodIn_app (goodIn_of _ (by decide +kernel)) ggX13_put_X13_in
set_option maxRecDepth 20000 in
theorem ggX13_put_X13_haveRoom : GoodIn wsX13_put wsX13_haveRoom := goodIn_r _ [15, 1, 16, 29, 30, 31, 32, 33, 34, 35, 36, 37, 38, 39, 40, 41, 42] (by decide +kernel) (by decide +kernel)
set_option maxRecDepth 20000 in
theorem gX13_put_X13_haveRoom : GoodIn wsX13_put (wsV RX13 51 RX13 yX13_haveRoom wsX13_haveRoom) := goodIn_app (goodIn_of _ (by decide +kernel)) ggX13_put_X13_haveRoom
set_option maxRecDepth 20000 in
theorem ggX13_put_X13_passes : GoodIn wsX13_put wsX13_passes := goodIn_r _ [20, 21, 29, 30, 31, 32, 33, 34, 35, 36, 37, 38, 39, 40, 41, 42] (by decide +kernel) (by decide +kernel)
set_option maxRecDepth 20000 in
theorem gX13_put_X13_passes : GoodIn wsX13_put (wsV RX13 55 RX13 yX13_passes wsX13_passes) := goodIn_app (goodIn_of _ (by decide +kernel)) ggX13_put_X13_passes
set_option maxRecDepth 20000 in
theorem ggX13_put_X13_comes : GoodIn wsX13_put wsX13_comes := goodIn_r _ [25, 26, 1, 27, 16, 28, 29, 30, 31, 32, 33, 34, 35, 36, 37, 38, 39, 40, 41, 42] (by decide +kernel) (by decide +kernel)
set_option maxRecDepth 20000 in
theorem gX13_put_X13_comes : GoodIn wsX13_put (wsV RX13 59 RX13 yX13_comes wsX13_comes) := goodIn_app (goodIn_of _ (by decide +kernel)) ggX13_put_X13_comes
theorem dX13_put_0 : decode cX13_put 0 = .ok (.iload_n 1, 1) := by decide +kernel
theorem dX13_put_1 : decode cX13_put 1 = .ok (.invokestatic 44, 3) := by decide +kernel
theorem dX13_put_4 : decode cX13_put 4 = .ok (.istore 4, 2) := by decide +kernel
theorem dX13_put_6 : decode cX13_put 6 = .ok (.aload_n 0, 1) := by decide +kernel
theorem dX13_put_7 : decode cX13_put 7 = .ok (.iload 4, 2) := by decide +kernel
theorem dX13_put_9 : decode cX13_put 9 = .ok (.iload_n 2, 1) := by decide +kernel
theorem dX13_put_10 : decode cX13_put 10 = .ok (.invokestatic 48, 3) := by decide +kernel
theorem dX13_put_13 : decode cX13_put 13 = .ok (.ifCond .eq 18, 3) := by decide +kernel
theorem dX13_put_16 : decode cX13_put 16 = .ok (.iload_n 3, 1) := by decide +kernel
theorem dX13_put_17 : decode cX13_put 17 = .ok (.iconst 0, 1) := by decide +kernel
theorem dX13_put_18 : decode cX13_put 18 = .ok (.sipush 9999, 3) := by decide +kernel
theorem dX13_put_21 : decode cX13_put 21 = .ok (.invokestatic 7, 3) := by decide +kernel
theorem dX13_put_24 : decode cX13_put 24 = .ok (.ifCond .eq 7, 3) := by decide +kernel
theorem dX13_put_27 : decode cX13_put 27 = .ok (.iconst 1, 1) := by decide +kernel
theorem dX13_put_28 : decode cX13_put 28 = .ok (.goto 4, 3) := by decide +kernel
theorem dX13_put_31 : decode cX13_put 31 = .ok (.iconst 0, 1) := by decide +kernel
theorem dX13_put_32 : decode cX13_put 32 = .ok (.iload 4, 2) := by decide +kernel
theorem dX13_put_34 : decode cX13_put 34 = .ok (.ifCond .eq 16, 3) := by decide +kernel
theorem dX13_put_37 : decode cX13_put 37 = .ok (.aload_n 0, 1) := by decide +kernel
theorem dX13_put_38 : decode cX13_put 38 = .ok (.iload_n 1, 1) := by decide +kernel
theorem dX13_put_39 : decode cX13_put 39 = .ok (.iconst 1, 1) := by decide +kernel
theorem dX13_put_40 : decode cX13_put 40 = .ok (.invokevirtual 51, 3) := by decide +kernel
theorem dX13_put_43 : decode cX13_put 43 = .ok (.ifCond .eq 7, 3) := by decide +kernel
theorem dX13_put_46 : decode cX13_put 46 = .ok (.iconst 1, 1) := by decide +kernel
theorem dX13_put_47 : decode cX13_put 47 = .ok (.goto 4, 3) := by decide +kernel
theorem dX13_put_50 : decode cX13_put 50 = .ok (.iconst 0, 1) := by decide +kernel
theorem dX13_put_51 : decode cX13_put 51 = .ok (.invokevirtual 55, 3) := by decide +kernel
theorem dX13_put_54 : decode cX13_put 54 = .ok (.ifCond .ne 5, 3) := by decide +kernel
theorem dX13_put_57 : decode cX13_put 57 = .ok (.iconst 0, 1) := by decide +kernel
theorem dX13_put_58 : decode cX13_put 58 = .ok (.ireturn, 1) := by decide +kernel
theorem dX13_put_59 : decode cX13_put 59 = .ok (.aload_n 0, 1) := by decide +kernel
theorem dX13_put_60 : decode cX13_put 60 = .ok (.iload_n 1, 1) := by decide +kernel
theorem dX13_put_61 : decode cX13_put 61 = .ok (.iload_n 2, 1) := by decide +kernel
theorem dX13_put_62 : decode cX13_put 62 = .ok (.iload_n 3, 1) := by decide +kernel
theorem dX13_put_63 : decode cX13_put 63 = .ok (.invokevirtual 59, 3) := by decide +kernel
theorem dX13_put_66 : decode cX13_put 66 = .ok (.aload_n 0, 1) := by decide +kernel
theorem dX13_put_67 : decode cX13_put 67 = .ok (.getfield 41, 3) := by decide +kernel
theorem dX13_put_70 : decode cX13_put 70 = .ok (.iconst 1, 1) := by decide +kernel
theorem dX13_put_71 : decode cX13_put 71 = .ok (.isub, 1) := by decide +kernel
theorem dX13_put_72 : decode cX13_put 72 = .ok (.ireturn, 1) := by decide +kernel
set_option maxRecDepth 20000 in
theorem ggX13_fill_X13_isTape : GoodIn wsX13_fill wsX13_isTape := goodIn_r _ [5, 6, 7, 4, 8] (by decide +kernel) (by decide +kernel)
set_option maxRecDepth 20000 in
theorem gX13_fill_X13_isTape : GoodIn wsX13_fill (va_wsS RX13 44 yX13_isTape wsX13_isTape) := goodIn_app (goodIn_of _ (by decide +kernel)) ggX13_fill_X13_isTape
set_option maxRecDepth 20000 in
theorem ggX13_fill_X13_isKey : GoodIn wsX13_fill wsX13_isKey := goodIn_r _ [11, 6, 7, 4, 8] (by decide +kernel) (by decide +kernel)
set_option maxRecDepth 20000 in
theorem gX13_fill_X13_isKey : GoodIn wsX13_fill (va_wsS RX13 48 yX13_isKey wsX13_isKey) := goodIn_app (goodIn_of _ (by decide +kernel)) ggX13_fill_X13_isKey
set_option maxRecDepth 20000 in
theorem ggX13_fill_X13_in : GoodIn wsX13_fill wsX13_in := goodIn_r _ [8] (by decide +kernel) (by decide +kernel)
set_option maxRecDepth 20000 in
theorem gX13_fill_X13_in : GoodIn wsX13_fill (va_wsS RX13 7 yX13_in wsX13_in) := goodIn_app (goodIn_of _ (by decide +kernel)) ggX13_fill_X13_in
set_option maxRecDepth 20000 in
theorem ggX13_fill_X13_haveRoom : GoodIn wsX13_fill wsX13_haveRoom := goodIn_r _ [15, 16, 1, 29, 30, 31, 32, 33, 34, 35, 36, 37, 38, 39, 40, 41, 42] (by decide +kernel) (by decide +kernel)
set_option maxRecDepth 20000 in
theorem gX13_fill_X13_haveRoom : GoodIn wsX13_fill (wsV RX13 51 RX13 yX13_haveRoom wsX13_haveRoom) := goodIn_app (goodIn_of _ (by decide +kernel)) ggX13_fill_X13_haveRoom
set_option maxRecDepth 20000 in
theorem ggX13_fill_X13_passes : GoodIn wsX13_fill wsX13_passes := goodIn_r _ [20, 21, 29, 30, 31, 32, 33, 34, 35, 36, 37, 38, 39, 40, 41, 42] (by decide +kernel) (by decide +kernel)
set_option maxRecDepth 20000 in
theorem gX13_fill_X13_passes : GoodIn wsX13_fill (wsV RX13 55 RX13 yX13_passes wsX13_passes) := goodIn_app (goodIn_of _ (by decide +kernel)) ggX13_fill_X13_passes
set_option maxRecDepth 20000 in
theorem ggX13_fill_X13_comes : GoodIn wsX13_fill wsX13_comes := goodIn_r _ [25, 26, 16, 27, 1, 28, 29, 30, 31, 32, 33, 34, 35, 36, 37, 38, 39, 40, 41, 42] (by decide +kernel) (by decide +kernel)
set_option maxRecDepth 20000 in
theorem gX13_fill_X13_comes : GoodIn wsX13_fill (wsV RX13 59 RX13 yX13_comes wsX13_comes) := goodIn_app (goodIn_of _ (by decide +kernel)) ggX13_fill_X13_comes
theorem dX13_fill_0 : decode cX13_fill 0 = .ok (.iload_n 1, 1) := by decide +kernel
theorem dX13_fill_1 : decode cX13_fill 1 = .ok (.invokestatic 44, 3) := by decide +kernel
theorem dX13_fill_4 : decode cX13_fill 4 = .ok (.istore 5, 2) := by decide +kernel
theorem dX13_fill_6 : decode cX13_fill 6 = .ok (.iload_n 2, 1) := by decide +kernel
theorem dX13_fill_7 : decode cX13_fill 7 = .ok (.invokestatic 48, 3) := by decide +kernel
theorem dX13_fill_10 : decode cX13_fill 10 = .ok (.ifCond .eq 29, 3) := by decide +kernel
theorem dX13_fill_13 : decode cX13_fill 13 = .ok (.iload_n 3, 1) := by decide +kernel
theorem dX13_fill_14 : decode cX13_fill 14 = .ok (.bipush (-50), 2) := by decide +kernel
theorem dX13_fill_16 : decode cX13_fill 16 = .ok (.bipush 50, 2) := by decide +kernel
theorem dX13_fill_18 : decode cX13_fill 18 = .ok (.invokestatic 7, 3) := by decide +kernel
theorem dX13_fill_21 : decode cX13_fill 21 = .ok (.ifCond .eq 18, 3) := by decide +kernel
theorem dX13_fill_24 : decode cX13_fill 24 = .ok (.iload 4, 2) := by decide +kernel
theorem dX13_fill_26 : decode cX13_fill 26 = .ok (.iconst 0, 1) := by decide +kernel
theorem dX13_fill_27 : decode cX13_fill 27 = .ok (.bipush 50, 2) := by decide +kernel
theorem dX13_fill_29 : decode cX13_fill 29 = .ok (.invokestatic 7, 3) := by decide +kernel
theorem dX13_fill_32 : decode cX13_fill 32 = .ok (.ifCond .eq 7, 3) := by decide +kernel
theorem dX13_fill_35 : decode cX13_fill 35 = .ok (.iconst 1, 1) := by decide +kernel
theorem dX13_fill_36 : decode cX13_fill 36 = .ok (.goto 4, 3) := by decide +kernel
theorem dX13_fill_39 : decode cX13_fill 39 = .ok (.iconst 0, 1) := by decide +kernel
theorem dX13_fill_40 : decode cX13_fill 40 = .ok (.istore 6, 2) := by decide +kernel
theorem dX13_fill_42 : decode cX13_fill 42 = .ok (.aload_n 0, 1) := by decide +kernel
theorem dX13_fill_43 : decode cX13_fill 43 = .ok (.iload 5, 2) := by decide +kernel
theorem dX13_fill_45 : decode cX13_fill 45 = .ok (.iload 6, 2) := by decide +kernel
theorem dX13_fill_47 : decode cX13_fill 47 = .ok (.ifCond .eq 26, 3) := by decide +kernel
theorem dX13_fill_50 : decode cX13_fill 50 = .ok (.iload 4, 2) := by decide +kernel
theorem dX13_fill_52 : decode cX13_fill 52 = .ok (.ifCond .eq 17, 3) := by decide +kernel
theorem dX13_fill_55 : decode cX13_fill 55 = .ok (.iload_n 2, 1) := by decide +kernel
theorem dX13_fill_56 : decode cX13_fill 56 = .ok (.iload 4, 2) := by decide +kernel
theorem dX13_fill_58 : decode cX13_fill 58 = .ok (.iconst 1, 1) := by decide +kernel
theorem dX13_fill_59 : decode cX13_fill 59 = .ok (.isub, 1) := by decide +kernel
theorem dX13_fill_60 : decode cX13_fill 60 = .ok (.iload_n 3, 1) := by decide +kernel
theorem dX13_fill_61 : decode cX13_fill 61 = .ok (.imul, 1) := by decide +kernel
theorem dX13_fill_62 : decode cX13_fill 62 = .ok (.iadd, 1) := by decide +kernel
theorem dX13_fill_63 : decode cX13_fill 63 = .ok (.invokestatic 48, 3) := by decide +kernel
theorem dX13_fill_66 : decode cX13_fill 66 = .ok (.ifCond .eq 7, 3) := by decide +kernel
theorem dX13_fill_69 : decode cX13_fill 69 = .ok (.iconst 1, 1) := by decide +kernel
theorem dX13_fill_70 : decode cX13_fill 70 = .ok (.goto 4, 3) := by decide +kernel
theorem dX13_fill_73 : decode cX13_fill 73 = .ok (.iconst 0, 1) := by decide +kernel
theorem dX13_fill_74 : decode cX13_fill 74 = .ok (.iload 5, 2) := by decide +kernel
theorem dX13_fill_76 : decode cX13_fill 76 = .ok (.ifCond .eq 17, 3) := by decide +kernel
theorem dX13_fill_79 : decode cX13_fill 79 = .ok (.aload_n 0, 1) := by decide +kernel
theorem dX13_fill_80 : decode cX13_fill 80 = .ok (.iload_n 1, 1) := by decide +kernel
theorem dX13_fill_81 : decode cX13_fill 81 = .ok (.iload 4, 2) := by decide +kernel
theorem dX13_fill_83 : decode cX13_fill 83 = .ok (.invokevirtual 51, 3) := by decide +kernel
theorem dX13_fill_86 : decode cX13_fill 86 = .ok (.ifCond .eq 7, 3) := by decide +kernel
theorem dX13_fill_89 : decode cX13_fill 89 = .ok (.iconst 1, 1) := by decide +kernel
theorem dX13_fill_90 : decode cX13_fill 90 = .ok (.goto 4, 3) := by decide +kernel
theorem dX13_fill_93 : decode cX13_fill 93 = .ok (.iconst 0, 1) := by decide +kernel
theorem dX13_fill_94 : decode cX13_fill 94 = .ok (.invokevirtual 55, 3) := by decide +kernel
theorem dX13_fill_97 : decode cX13_fill 97 = .ok (.ifCond .ne 5, 3) := by decide +kernel
theorem dX13_fill_100 : decode cX13_fill 100 = .ok (.iconst 0, 1) := by decide +kernel
theorem dX13_fill_101 : decode cX13_fill 101 = .ok (.ireturn, 1) := by decide +kernel
theorem dX13_fill_102 : decode cX13_fill 102 = .ok (.iconst 0, 1) := by decide +kernel
theorem dX13_fill_103 : decode cX13_fill 103 = .ok (.istore 7, 2) := by decide +kernel
theorem dX13_fill_105 : decode cX13_fill 105 = .ok (.iload 7, 2) := by decide +kernel
theorem dX13_fill_107 : decode cX13_fill 107 = .ok (.iload 4, 2) := by decide +kernel
theorem dX13_fill_109 : decode cX13_fill 109 = .ok (.if_icmp .ge 21, 3) := by decide +kernel
theorem dX13_fill_112 : decode cX13_fill 112 = .ok (.aload_n 0, 1) := by decide +kernel
theorem dX13_fill_113 : decode cX13_fill 113 = .ok (.iload_n 1, 1) := by decide +kernel
theorem dX13_fill_114 : decode cX13_fill 114 = .ok (.iload_n 2, 1) := by decide +kernel
theorem dX13_fill_115 : decode cX13_fill 115 = .ok (.iload 7, 2) := by decide +kernel
theorem dX13_fill_117 : decode cX13_fill 117 = .ok (.iload_n 3, 1) := by decide +kernel
theorem dX13_fill_118 : decode cX13_fill 118 = .ok (.imul, 1) := by decide +kernel
theorem dX13_fill_119 : decode cX13_fill 119 = .ok (.iadd, 1) := by decide +kernel
theorem dX13_fill_120 : decode cX13_fill 120 = .ok (.iconst 0, 1) := by decide +kernel
theorem dX13_fill_121 : decode cX13_fill 121 = .ok (.invokevirtual 59, 3) := by decide +kernel
theorem dX13_fill_124 : decode cX13_fill 124 = .ok (.iinc 7 1, 3) := by decide +kernel
theorem dX13_fill_127 : decode cX13_fill 127 = .ok (.goto (-22), 3) := by decide +kernel
theorem dX13_fill_130 : decode cX13_fill 130 = .ok (.aload_n 0, 1) := by decide +kernel
theorem dX13_fill_131 : decode cX13_fill 131 = .ok (.getfield 29, 3) := by decide +kernel
theorem dX13_fill_134 : decode cX13_fill 134 = .ok (.iload_n 1, 1) := by decide +kernel
theorem dX13_fill_135 : decode cX13_fill 135 = .ok (.aaload, 1) := by decide +kernel
theorem dX13_fill_136 : decode cX13_fill 136 = .ok (.arraylength, 1) := by decide +kernel
theorem dX13_fill_137 : decode cX13_fill 137 = .ok (.ireturn, 1) := by decide +kernel
set_option maxRecDepth 20000 in
theorem ggX13_scatter_X13_isTape : GoodIn wsX13_scatter wsX13_isTape := goodIn_r _ [9, 10, 11, 8, 12] (by decide +kernel) (by decide +kernel)
set_option maxRecDepth 20000 in
theorem gX13_scatter_X13_isTape : GoodIn wsX13_scatter (va_wsS RX13 44 yX13_isTape wsX13_isTape) := goodIn_app (goodIn_of _ (by decide +kernel)) ggX13_scatter_X13_isTape
set_option maxRecDepth 20000 in
theorem ggX13_scatter_X13_in : GoodIn wsX13_scatter wsX13_in := goodIn_r _ [12] (by decide +kernel) (by decide +kernel)
set_option maxRecDepth 20000 in
theorem gX13_scatter_X13_in : GoodIn wsX13_scatter (va_wsS RX13 7 yX13_in wsX13_in) := goodIn_app (goodIn_of _ (by decide +kernel)) ggX13_scatter_X13_in
set_option maxRecDepth 20000 in
theorem ggX13_scatter_X13_haveRoom : GoodIn wsX13_scatter wsX13_haveRoom := goodIn_r _ [16, 17, 5, 30, 31, 32, 33, 34, 35, 36, 37, 38, 39, 40, 41, 42, 43] (by decide +kernel) (by decide +kernel)
set_option maxRecDepth 20000 in
theorem gX13_scatter_X13_haveRoom : GoodIn wsX13_scatter (wsV RX13 51 RX13 yX13_haveRoom wsX13_haveRoom) := goodIn_app (goodIn_of _ (by decide +kernel)) ggX13_scatter_X13_haveRoom
set_option maxRecDepth 20000 in
theorem ggX13_scatter_X13_passes : GoodIn wsX13_scatter wsX13_passes := goodIn_r _ [21, 22, 30, 31, 32, 33, 34, 35, 36, 37, 38, 39, 40, 41, 42, 43] (by decide +kernel) (by decide +kernel)
set_option maxRecDepth 20000 in
theorem gX13_scatter_X13_passes : GoodIn wsX13_scatter (wsV RX13 55 RX13 yX13_passes wsX13_passes) := goodIn_app (goodIn_of _ (by decide +kernel)) ggX13_scatter_X13_passes
set_option maxRecDepth 20000 in
theorem ggX13_scatter_X13_comes : GoodIn wsX13_scatter wsX13_comes := goodIn_r _ [26, 27, 17, 28, 5, 29, 30, 31, 32, 33, 34, 35, 36, 37, 38, 39, 40, 41, 42, 43] (by decide +kernel) (by decide +kernel)
set_option maxRecDepth 20000 in
theorem gX13_scatter_X13_comes : GoodIn wsX13_scatter (wsV RX13 59 RX13 yX13_comes wsX13_comes) := goodIn_app (goodIn_of _ (by decide +kernel)) ggX13_scatter_X13_comes
theorem dX13_scatter_0 : decode cX13_scatter 0 = .ok (.iload_n 1, 1) := by decide +kernel
theorem dX13_scatter_1 : decode cX13_scatter 1 = .ok (.invokestatic 44, 3) := by decide +kernel
theorem dX13_scatter_4 : decode cX13_scatter 4 = .ok (.istore 5, 2) := by decide +kernel
theorem dX13_scatter_6 : decode cX13_scatter 6 = .ok (.aload_n 0, 1) := by decide +kernel
theorem dX13_scatter_7 : decode cX13_scatter 7 = .ok (.iload 5, 2) := by decide +kernel
theorem dX13_scatter_9 : decode cX13_scatter 9 = .ok (.iload_n 2, 1) := by decide +kernel
theorem dX13_scatter_10 : decode cX13_scatter 10 = .ok (.iconst 0, 1) := by decide +kernel
theorem dX13_scatter_11 : decode cX13_scatter 11 = .ok (.bipush 50, 2) := by decide +kernel
theorem dX13_scatter_13 : decode cX13_scatter 13 = .ok (.invokestatic 7, 3) := by decide +kernel
theorem dX13_scatter_16 : decode cX13_scatter 16 = .ok (.ifCond .eq 23, 3) := by decide +kernel
theorem dX13_scatter_19 : decode cX13_scatter 19 = .ok (.iload_n 3, 1) := by decide +kernel
theorem dX13_scatter_20 : decode cX13_scatter 20 = .ok (.iconst 1, 1) := by decide +kernel
theorem dX13_scatter_21 : decode cX13_scatter 21 = .ok (.sipush 999, 3) := by decide +kernel
theorem dX13_scatter_24 : decode cX13_scatter 24 = .ok (.invokestatic 7, 3) := by decide +kernel
theorem dX13_scatter_27 : decode cX13_scatter 27 = .ok (.ifCond .eq 12, 3) := by decide +kernel
theorem dX13_scatter_30 : decode cX13_scatter 30 = .ok (.iload 4, 2) := by decide +kernel
theorem dX13_scatter_32 : decode cX13_scatter 32 = .ok (.ifCond .lt 7, 3) := by decide +kernel
theorem dX13_scatter_35 : decode cX13_scatter 35 = .ok (.iconst 1, 1) := by decide +kernel
theorem dX13_scatter_36 : decode cX13_scatter 36 = .ok (.goto 4, 3) := by decide +kernel
theorem dX13_scatter_39 : decode cX13_scatter 39 = .ok (.iconst 0, 1) := by decide +kernel
theorem dX13_scatter_40 : decode cX13_scatter 40 = .ok (.iload 5, 2) := by decide +kernel
theorem dX13_scatter_42 : decode cX13_scatter 42 = .ok (.ifCond .eq 16, 3) := by decide +kernel
theorem dX13_scatter_45 : decode cX13_scatter 45 = .ok (.aload_n 0, 1) := by decide +kernel
theorem dX13_scatter_46 : decode cX13_scatter 46 = .ok (.iload_n 1, 1) := by decide +kernel
theorem dX13_scatter_47 : decode cX13_scatter 47 = .ok (.iload_n 2, 1) := by decide +kernel
theorem dX13_scatter_48 : decode cX13_scatter 48 = .ok (.invokevirtual 51, 3) := by decide +kernel
theorem dX13_scatter_51 : decode cX13_scatter 51 = .ok (.ifCond .eq 7, 3) := by decide +kernel
theorem dX13_scatter_54 : decode cX13_scatter 54 = .ok (.iconst 1, 1) := by decide +kernel
theorem dX13_scatter_55 : decode cX13_scatter 55 = .ok (.goto 4, 3) := by decide +kernel
theorem dX13_scatter_58 : decode cX13_scatter 58 = .ok (.iconst 0, 1) := by decide +kernel
theorem dX13_scatter_59 : decode cX13_scatter 59 = .ok (.invokevirtual 55, 3) := by decide +kernel
theorem dX13_scatter_62 : decode cX13_scatter 62 = .ok (.ifCond .ne 5, 3) := by decide +kernel
theorem dX13_scatter_65 : decode cX13_scatter 65 = .ok (.iconst 0, 1) := by decide +kernel
theorem dX13_scatter_66 : decode cX13_scatter 66 = .ok (.ireturn, 1) := by decide +kernel
theorem dX13_scatter_67 : decode cX13_scatter 67 = .ok (.iload 4, 2) := by decide +kernel
theorem dX13_scatter_69 : decode cX13_scatter 69 = .ok (.i2l, 1) := by decide +kernel
theorem dX13_scatter_70 : decode cX13_scatter 70 = .ok (.lstore 6, 2) := by decide +kernel
theorem dX13_scatter_72 : decode cX13_scatter 72 = .ok (.iconst 0, 1) := by decide +kernel
theorem dX13_scatter_73 : decode cX13_scatter 73 = .ok (.istore 8, 2) := by decide +kernel
theorem dX13_scatter_75 : decode cX13_scatter 75 = .ok (.iload 8, 2) := by decide +kernel
theorem dX13_scatter_77 : decode cX13_scatter 77 = .ok (.iload_n 2, 1) := by decide +kernel
theorem dX13_scatter_78 : decode cX13_scatter 78 = .ok (.if_icmp .ge 41, 3) := by decide +kernel
theorem dX13_scatter_81 : decode cX13_scatter 81 = .ok (.lload 6, 2) := by decide +kernel
theorem dX13_scatter_83 : decode cX13_scatter 83 = .ok (.ldc2_w 63, 3) := by decide +kernel
theorem dX13_scatter_86 : decode cX13_scatter 86 = .ok (.lmul, 1) := by decide +kernel
theorem dX13_scatter_87 : decode cX13_scatter 87 = .ok (.ldc2_w 65, 3) := by decide +kernel
theorem dX13_scatter_90 : decode cX13_scatter 90 = .ok (.ladd, 1) := by decide +kernel
theorem dX13_scatter_91 : decode cX13_scatter 91 = .ok (.ldc2_w 67, 3) := by decide +kernel
theorem dX13_scatter_94 : decode cX13_scatter 94 = .ok (.lrem, 1) := by decide +kernel
theorem dX13_scatter_95 : decode cX13_scatter 95 = .ok (.lstore 6, 2) := by decide +kernel
theorem dX13_scatter_97 : decode cX13_scatter 97 = .ok (.aload_n 0, 1) := by decide +kernel
theorem dX13_scatter_98 : decode cX13_scatter 98 = .ok (.iload_n 1, 1) := by decide +kernel
theorem dX13_scatter_99 : decode cX13_scatter 99 = .ok (.lload 6, 2) := by decide +kernel
theorem dX13_scatter_101 : decode cX13_scatter 101 = .ok (.ldc2_w 69, 3) := by decide +kernel
theorem dX13_scatter_104 : decode cX13_scatter 104 = .ok (.ldiv, 1) := by decide +kernel
theorem dX13_scatter_105 : decode cX13_scatter 105 = .ok (.iload_n 3, 1) := by decide +kernel
theorem dX13_scatter_106 : decode cX13_scatter 106 = .ok (.i2l, 1) := by decide +kernel
theorem dX13_scatter_107 : decode cX13_scatter 107 = .ok (.lrem, 1) := by decide +kernel
theorem dX13_scatter_108 : decode cX13_scatter 108 = .ok (.l2i, 1) := by decide +kernel
theorem dX13_scatter_109 : decode cX13_scatter 109 = .ok (.iconst 0, 1) := by decide +kernel
theorem dX13_scatter_110 : decode cX13_scatter 110 = .ok (.invokevirtual 59, 3) := by decide +kernel
theorem dX13_scatter_113 : decode cX13_scatter 113 = .ok (.iinc 8 1, 3) := by decide +kernel
theorem dX13_scatter_116 : decode cX13_scatter 116 = .ok (.goto (-41), 3) := by decide +kernel
theorem dX13_scatter_119 : decode cX13_scatter 119 = .ok (.aload_n 0, 1) := by decide +kernel
theorem dX13_scatter_120 : decode cX13_scatter 120 = .ok (.getfield 29, 3) := by decide +kernel
theorem dX13_scatter_123 : decode cX13_scatter 123 = .ok (.iload_n 1, 1) := by decide +kernel
theorem dX13_scatter_124 : decode cX13_scatter 124 = .ok (.aaload, 1) := by decide +kernel
theorem dX13_scatter_125 : decode cX13_scatter 125 = .ok (.arraylength, 1) := by decide +kernel
theorem dX13_scatter_126 : decode cX13_scatter 126 = .ok (.ireturn, 1) := by decide +kernel
theorem dX13_records_0 : decode cX13_records 0 = .ok (.aload_n 0, 1) := by decide +kernel
theorem dX13_records_1 : decode cX13_records 1 = .ok (.iconst 0, 1) := by decide +kernel
theorem dX13_records_2 : decode cX13_records 2 = .ok (.putfield 1, 3) := by decide +kernel
theorem dX13_records_5 : decode cX13_records 5 = .ok (.aload_n 0, 1) := by decide +kernel
theorem dX13_records_6 : decode cX13_records 6 = .ok (.getfield 41, 3) := by decide +kernel
theorem dX13_records_9 : decode cX13_records 9 = .ok (.ireturn, 1) := by decide +kernel
set_option maxRecDepth 20000 in
theorem ggX13_key_X13_in : GoodIn wsX13_key wsX13_in := goodIn_r _ [6] (by decide +kernel) (by decide +kernel)
set_option maxRecDepth 20000 in
theorem gX13_key_X13_in : GoodIn wsX13_key (va_wsS RX13 7 yX13_in wsX13_in) := goodIn_app (goodIn_of _ (by decide +kernel)) ggX13_key_X13_in
set_option maxRecDepth 20000 in
theorem ggX13_key_X13_passes : GoodIn wsX13_key wsX13_passes := goodIn_r _ [10, 11, 12, 13, 14, 15, 16, 17, 18, 19, 20, 21, 22, 23, 24, 25] (by decide +kernel) (by decide +kernel)
set_option maxRecDepth 20000 in
theorem gX13_key_X13_passes : GoodIn wsX13_key (wsV RX13 55 RX13 yX13_passes wsX13_passes) := goodIn_app (goodIn_of _ (by decide +kernel)) ggX13_key_X13_passes
theorem dX13_key_0 : decode cX13_key 0 = .ok (.aload_n 0, 1) := by decide +kernel
theorem dX13_key_1 : decode cX13_key 1 = .ok (.iload_n 1, 1) := by decide +kernel
theorem dX13_key_2 : decode cX13_key 2 = .ok (.iconst 0, 1) := by decide +kernel
theorem dX13_key_3 : decode cX13_key 3 = .ok (.aload_n 0, 1) := by decide +kernel
theorem dX13_key_4 : decode cX13_key 4 = .ok (.getfield 41, 3) := by decide +kernel
theorem dX13_key_7 : decode cX13_key 7 = .ok (.iconst 1, 1) := by decide +kernel
theorem dX13_key_8 : decode cX13_key 8 = .ok (.isub, 1) := by decide +kernel
theorem dX13_key_9 : decode cX13_key 9 = .ok (.invokestatic 7, 3) := by decide +kernel
theorem dX13_key_12 : decode cX13_key 12 = .ok (.iconst 1, 1) := by decide +kernel
theorem dX13_key_13 : decode cX13_key 13 = .ok (.iconst 1, 1) := by decide +kernel
theorem dX13_key_14 : decode cX13_key 14 = .ok (.invokevirtual 55, 3) := by decide +kernel
theorem dX13_key_17 : decode cX13_key 17 = .ok (.ifCond .eq 12, 3) := by decide +kernel
theorem dX13_key_20 : decode cX13_key 20 = .ok (.aload_n 0, 1) := by decide +kernel
theorem dX13_key_21 : decode cX13_key 21 = .ok (.getfield 11, 3) := by decide +kernel
theorem dX13_key_24 : decode cX13_key 24 = .ok (.iload_n 1, 1) := by decide +kernel
theorem dX13_key_25 : decode cX13_key 25 = .ok (.iaload, 1) := by decide +kernel
theorem dX13_key_26 : decode cX13_key 26 = .ok (.goto 4, 3) := by decide +kernel
theorem dX13_key_29 : decode cX13_key 29 = .ok (.iconst 0, 1) := by decide +kernel
theorem dX13_key_30 : decode cX13_key 30 = .ok (.ireturn, 1) := by decide +kernel
set_option maxRecDepth 20000 in
theorem ggX13_mark_X13_in : GoodIn wsX13_mark wsX13_in := goodIn_r _ [6] (by decide +kernel) (by decide +kernel)
set_option maxRecDepth 20000 in
theorem gX13_mark_X13_in : GoodIn wsX13_mark (va_wsS RX13 7 yX13_in wsX13_in) := goodIn_app (goodIn_of _ (by decide +kernel)) ggX13_mark_X13_in
set_option maxRecDepth 20000 in
theorem ggX13_mark_X13_passes : GoodIn wsX13_mark wsX13_passes := goodIn_r _ [10, 11, 12, 13, 14, 15, 16, 17, 18, 19, 20, 21, 22, 23, 24, 25] (by decide +kernel) (by decide +kernel)
set_option maxRecDepth 20000 in
theorem gX13_mark_X13_passes : GoodIn wsX13_mark (wsV RX13 55 RX13 yX13_passes wsX13_passes) := goodIn_app (goodIn_of _ (by decide +kernel)) ggX13_mark_X13_passes
theorem dX13_mark_0 : decode cX13_mark 0 = .ok (.aload_n 0, 1) := by decide +kernel
theorem dX13_mark_1 : decode cX13_mark 1 = .ok (.iload_n 1, 1) := by decide +kernel
theorem dX13_mark_2 : decode cX13_mark 2 = .ok (.iconst 0, 1) := by decide +kernel
theorem dX13_mark_3 : decode cX13_mark 3 = .ok (.aload_n 0, 1) := by decide +kernel
theorem dX13_mark_4 : decode cX13_mark 4 = .ok (.getfield 41, 3) := by decide +kernel
theorem dX13_mark_7 : decode cX13_mark 7 = .ok (.iconst 1, 1) := by decide +kernel
theorem dX13_mark_8 : decode cX13_mark 8 = .ok (.isub, 1) := by decide +kernel
theorem dX13_mark_9 : decode cX13_mark 9 = .ok (.invokestatic 7, 3) := by decide +kernel
theorem dX13_mark_12 : decode cX13_mark 12 = .ok (.iconst 1, 1) := by decide +kernel
theorem dX13_mark_13 : decode cX13_mark 13 = .ok (.iconst 1, 1) := by decide +kernel
theorem dX13_mark_14 : decode cX13_mark 14 = .ok (.invokevirtual 55, 3) := by decide +kernel
theorem dX13_mark_17 : decode cX13_mark 17 = .ok (.ifCond .eq 12, 3) := by decide +kernel
theorem dX13_mark_20 : decode cX13_mark 20 = .ok (.aload_n 0, 1) := by decide +kernel
theorem dX13_mark_21 : decode cX13_mark 21 = .ok (.getfield 24, 3) := by decide +kernel
theorem dX13_mark_24 : decode cX13_mark 24 = .ok (.iload_n 1, 1) := by decide +kernel
theorem dX13_mark_25 : decode cX13_mark 25 = .ok (.iaload, 1) := by decide +kernel
theorem dX13_mark_26 : decode cX13_mark 26 = .ok (.goto 4, 3) := by decide +kernel
theorem dX13_mark_29 : decode cX13_mark 29 = .ok (.iconst 0, 1) := by decide +kernel
theorem dX13_mark_30 : decode cX13_mark 30 = .ok (.ireturn, 1) := by decide +kernel
set_option maxRecDepth 20000 in
theorem ggX13_length_X13_isTape : GoodIn wsX13_length wsX13_isTape := goodIn_r _ [5, 6, 7, 4, 8] (by decide +kernel) (by decide +kernel)
set_option maxRecDepth 20000 in
theorem gX13_length_X13_isTape : GoodIn wsX13_length (va_wsS RX13 44 yX13_isTape wsX13_isTape) := goodIn_app (goodIn_of _ (by decide +kernel)) ggX13_length_X13_isTape
set_option maxRecDepth 20000 in
theorem ggX13_length_X13_passes : GoodIn wsX13_length wsX13_passes := goodIn_r _ [12, 13, 14, 15, 16, 17, 18, 19, 20, 21, 22, 23, 24, 25, 26, 27] (by decide +kernel) (by decide +kernel)
set_option maxRecDepth 20000 in
theorem gX13_length_X13_passes : GoodIn wsX13_length (wsV RX13 55 RX13 yX13_passes wsX13_passes) := goodIn_app (goodIn_of _ (by decide +kernel)) ggX13_length_X13_passes
theorem dX13_length_0 : decode cX13_length 0 = .ok (.aload_n 0, 1) := by decide +kernel
theorem dX13_length_1 : decode cX13_length 1 = .ok (.iload_n 1, 1) := by decide +kernel
theorem dX13_length_2 : decode cX13_length 2 = .ok (.invokestatic 44, 3) := by decide +kernel
theorem dX13_length_5 : decode cX13_length 5 = .ok (.iconst 1, 1) := by decide +kernel
theorem dX13_length_6 : decode cX13_length 6 = .ok (.iconst 1, 1) := by decide +kernel
theorem dX13_length_7 : decode cX13_length 7 = .ok (.invokevirtual 55, 3) := by decide +kernel
theorem dX13_length_10 : decode cX13_length 10 = .ok (.ifCond .eq 13, 3) := by decide +kernel
theorem dX13_length_13 : decode cX13_length 13 = .ok (.aload_n 0, 1) := by decide +kernel
theorem dX13_length_14 : decode cX13_length 14 = .ok (.getfield 29, 3) := by decide +kernel
theorem dX13_length_17 : decode cX13_length 17 = .ok (.iload_n 1, 1) := by decide +kernel
theorem dX13_length_18 : decode cX13_length 18 = .ok (.aaload, 1) := by decide +kernel
theorem dX13_length_19 : decode cX13_length 19 = .ok (.arraylength, 1) := by decide +kernel
theorem dX13_length_20 : decode cX13_length 20 = .ok (.goto 4, 3) := by decide +kernel
theorem dX13_length_23 : decode cX13_length 23 = .ok (.iconst 0, 1) := by decide +kernel
theorem dX13_length_24 : decode cX13_length 24 = .ok (.ireturn, 1) := by decide +kernel
set_option maxRecDepth 20000 in
theorem ggX13_at_X13_isTape : GoodIn wsX13_at wsX13_isTape := goodIn_r _ [5, 6, 7, 4, 8] (by decide +kernel) (by decide +kernel)
set_option maxRecDepth 20000 in
theorem gX13_at_X13_isTape : GoodIn wsX13_at (va_wsS RX13 44 yX13_isTape wsX13_isTape) := goodIn_app (goodIn_of _ (by decide +kernel)) ggX13_at_X13_isTape
set_option maxRecDepth 20000 in
theorem ggX13_at_X13_in : GoodIn wsX13_at wsX13_in := goodIn_r _ [8] (by decide +kernel) (by decide +kernel)
set_option maxRecDepth 20000 in
theorem gX13_at_X13_in : GoodIn wsX13_at (va_wsS RX13 7 yX13_in wsX13_in) := goodIn_app (goodIn_of _ (by decide +kernel)) ggX13_at_X13_in
set_option maxRecDepth 20000 in
theorem ggX13_at_X13_passes : GoodIn wsX13_at wsX13_passes := goodIn_r _ [12, 13, 14, 15, 16, 17, 18, 19, 20, 21, 22, 23, 24, 25, 26, 27] (by decide +kernel) (by decide +kernel)
set_option maxRecDepth 20000 in
theorem gX13_at_X13_passes : GoodIn wsX13_at (wsV RX13 55 RX13 yX13_passes wsX13_passes) := goodIn_app (goodIn_of _ (by decide +kernel)) ggX13_at_X13_passes
theorem dX13_at_0 : decode cX13_at 0 = .ok (.aload_n 0, 1) := by decide +kernel
theorem dX13_at_1 : decode cX13_at 1 = .ok (.iload_n 1, 1) := by decide +kernel
theorem dX13_at_2 : decode cX13_at 2 = .ok (.invokestatic 44, 3) := by decide +kernel
theorem dX13_at_5 : decode cX13_at 5 = .ok (.ifCond .eq 24, 3) := by decide +kernel
theorem dX13_at_8 : decode cX13_at 8 = .ok (.iload_n 2, 1) := by decide +kernel
theorem dX13_at_9 : decode cX13_at 9 = .ok (.iconst 0, 1) := by decide +kernel
theorem dX13_at_10 : decode cX13_at 10 = .ok (.aload_n 0, 1) := by decide +kernel
theorem dX13_at_11 : decode cX13_at 11 = .ok (.getfield 29, 3) := by decide +kernel
theorem dX13_at_14 : decode cX13_at 14 = .ok (.iload_n 1, 1) := by decide +kernel
theorem dX13_at_15 : decode cX13_at 15 = .ok (.aaload, 1) := by decide +kernel
theorem dX13_at_16 : decode cX13_at 16 = .ok (.arraylength, 1) := by decide +kernel
theorem dX13_at_17 : decode cX13_at 17 = .ok (.iconst 1, 1) := by decide +kernel
theorem dX13_at_18 : decode cX13_at 18 = .ok (.isub, 1) := by decide +kernel
theorem dX13_at_19 : decode cX13_at 19 = .ok (.invokestatic 7, 3) := by decide +kernel
theorem dX13_at_22 : decode cX13_at 22 = .ok (.ifCond .eq 7, 3) := by decide +kernel
theorem dX13_at_25 : decode cX13_at 25 = .ok (.iconst 1, 1) := by decide +kernel
theorem dX13_at_26 : decode cX13_at 26 = .ok (.goto 4, 3) := by decide +kernel
theorem dX13_at_29 : decode cX13_at 29 = .ok (.iconst 0, 1) := by decide +kernel
theorem dX13_at_30 : decode cX13_at 30 = .ok (.iconst 1, 1) := by decide +kernel
theorem dX13_at_31 : decode cX13_at 31 = .ok (.iconst 1, 1) := by decide +kernel
theorem dX13_at_32 : decode cX13_at 32 = .ok (.invokevirtual 55, 3) := by decide +kernel
theorem dX13_at_35 : decode cX13_at 35 = .ok (.ifCond .eq 14, 3) := by decide +kernel
theorem dX13_at_38 : decode cX13_at 38 = .ok (.aload_n 0, 1) := by decide +kernel
theorem dX13_at_39 : decode cX13_at 39 = .ok (.getfield 29, 3) := by decide +kernel
theorem dX13_at_42 : decode cX13_at 42 = .ok (.iload_n 1, 1) := by decide +kernel
theorem dX13_at_43 : decode cX13_at 43 = .ok (.aaload, 1) := by decide +kernel
theorem dX13_at_44 : decode cX13_at 44 = .ok (.iload_n 2, 1) := by decide +kernel
theorem dX13_at_45 : decode cX13_at 45 = .ok (.iaload, 1) := by decide +kernel
theorem dX13_at_46 : decode cX13_at 46 = .ok (.goto 4, 3) := by decide +kernel
theorem dX13_at_49 : decode cX13_at 49 = .ok (.iconst 0, 1) := by decide +kernel
theorem dX13_at_50 : decode cX13_at 50 = .ok (.ireturn, 1) := by decide +kernel
set_option maxRecDepth 20000 in
theorem ggX13_digest_X13_isTape : GoodIn wsX13_digest wsX13_isTape := goodIn_r _ [5, 6, 7, 4, 8] (by decide +kernel) (by decide +kernel)
set_option maxRecDepth 20000 in
theorem gX13_digest_X13_isTape : GoodIn wsX13_digest (va_wsS RX13 44 yX13_isTape wsX13_isTape) := goodIn_app (goodIn_of _ (by decide +kernel)) ggX13_digest_X13_isTape
set_option maxRecDepth 20000 in
theorem ggX13_digest_X13_passes : GoodIn wsX13_digest wsX13_passes := goodIn_r _ [12, 13, 14, 15, 16, 17, 18, 19, 20, 21, 22, 23, 24, 25, 26, 27] (by decide +kernel) (by decide +kernel)
set_option maxRecDepth 20000 in
theorem gX13_digest_X13_passes : GoodIn wsX13_digest (wsV RX13 55 RX13 yX13_passes wsX13_passes) := goodIn_app (goodIn_of _ (by decide +kernel)) ggX13_digest_X13_passes
theorem dX13_digest_0 : decode cX13_digest 0 = .ok (.aload_n 0, 1) := by decide +kernel
theorem dX13_digest_1 : decode cX13_digest 1 = .ok (.iload_n 1, 1) := by decide +kernel
theorem dX13_digest_2 : decode cX13_digest 2 = .ok (.invokestatic 44, 3) := by decide +kernel
theorem dX13_digest_5 : decode cX13_digest 5 = .ok (.iconst 1, 1) := by decide +kernel
theorem dX13_digest_6 : decode cX13_digest 6 = .ok (.iconst 1, 1) := by decide +kernel
theorem dX13_digest_7 : decode cX13_digest 7 = .ok (.invokevirtual 55, 3) := by decide +kernel
theorem dX13_digest_10 : decode cX13_digest 10 = .ok (.ifCond .ne 5, 3) := by decide +kernel
theorem dX13_digest_13 : decode cX13_digest 13 = .ok (.iconst 0, 1) := by decide +kernel
theorem dX13_digest_14 : decode cX13_digest 14 = .ok (.ireturn, 1) := by decide +kernel
theorem dX13_digest_15 : decode cX13_digest 15 = .ok (.bipush 7, 2) := by decide +kernel
theorem dX13_digest_17 : decode cX13_digest 17 = .ok (.istore_n 2, 1) := by decide +kernel
theorem dX13_digest_18 : decode cX13_digest 18 = .ok (.iconst 0, 1) := by decide +kernel
theorem dX13_digest_19 : decode cX13_digest 19 = .ok (.istore_n 3, 1) := by decide +kernel
theorem dX13_digest_20 : decode cX13_digest 20 = .ok (.iload_n 3, 1) := by decide +kernel
theorem dX13_digest_21 : decode cX13_digest 21 = .ok (.aload_n 0, 1) := by decide +kernel
theorem dX13_digest_22 : decode cX13_digest 22 = .ok (.getfield 29, 3) := by decide +kernel
theorem dX13_digest_25 : decode cX13_digest 25 = .ok (.iload_n 1, 1) := by decide +kernel
theorem dX13_digest_26 : decode cX13_digest 26 = .ok (.aaload, 1) := by decide +kernel
theorem dX13_digest_27 : decode cX13_digest 27 = .ok (.arraylength, 1) := by decide +kernel
theorem dX13_digest_28 : decode cX13_digest 28 = .ok (.if_icmp .ge 23, 3) := by decide +kernel
theorem dX13_digest_31 : decode cX13_digest 31 = .ok (.bipush 31, 2) := by decide +kernel
theorem dX13_digest_33 : decode cX13_digest 33 = .ok (.iload_n 2, 1) := by decide +kernel
theorem dX13_digest_34 : decode cX13_digest 34 = .ok (.imul, 1) := by decide +kernel
theorem dX13_digest_35 : decode cX13_digest 35 = .ok (.aload_n 0, 1) := by decide +kernel
theorem dX13_digest_36 : decode cX13_digest 36 = .ok (.getfield 29, 3) := by decide +kernel
theorem dX13_digest_39 : decode cX13_digest 39 = .ok (.iload_n 1, 1) := by decide +kernel
theorem dX13_digest_40 : decode cX13_digest 40 = .ok (.aaload, 1) := by decide +kernel
theorem dX13_digest_41 : decode cX13_digest 41 = .ok (.iload_n 3, 1) := by decide +kernel
theorem dX13_digest_42 : decode cX13_digest 42 = .ok (.iaload, 1) := by decide +kernel
theorem dX13_digest_43 : decode cX13_digest 43 = .ok (.iadd, 1) := by decide +kernel
theorem dX13_digest_44 : decode cX13_digest 44 = .ok (.istore_n 2, 1) := by decide +kernel
theorem dX13_digest_45 : decode cX13_digest 45 = .ok (.iinc 3 1, 3) := by decide +kernel
theorem dX13_digest_48 : decode cX13_digest 48 = .ok (.goto (-28), 3) := by decide +kernel
theorem dX13_digest_51 : decode cX13_digest 51 = .ok (.iload_n 2, 1) := by decide +kernel
theorem dX13_digest_52 : decode cX13_digest 52 = .ok (.ireturn, 1) := by decide +kernel
set_option maxRecDepth 20000 in
theorem ggX13_isSorted_X13_isTape : GoodIn wsX13_isSorted wsX13_isTape := goodIn_r _ [5, 6, 7, 4, 8] (by decide +kernel) (by decide +kernel)
set_option maxRecDepth 20000 in
theorem gX13_isSorted_X13_isTape : GoodIn wsX13_isSorted (va_wsS RX13 44 yX13_isTape wsX13_isTape) := goodIn_app (goodIn_of _ (by decide +kernel)) ggX13_isSorted_X13_isTape
set_option maxRecDepth 20000 in
theorem ggX13_isSorted_X13_in : GoodIn wsX13_isSorted wsX13_in := goodIn_r _ [8] (by decide +kernel) (by decide +kernel)
set_option maxRecDepth 20000 in
theorem gX13_isSorted_X13_in : GoodIn wsX13_isSorted (va_wsS RX13 7 yX13_in wsX13_in) := goodIn_app (goodIn_of _ (by decide +kernel)) ggX13_isSorted_X13_in
set_option maxRecDepth 20000 in
theorem ggX13_isSorted_X13_passes : GoodIn wsX13_isSorted wsX13_passes := goodIn_r _ [12, 13, 23, 24, 25, 26, 27, 28, 29, 30, 31, 32, 33, 34, 35, 36] (by decide +kernel) (by decide +kernel)
set_option maxRecDepth 20000 in
theorem gX13_isSorted_X13_passes : GoodIn wsX13_isSorted (wsV RX13 55 RX13 yX13_passes wsX13_passes) := goodIn_app (goodIn_of _ (by decide +kernel)) ggX13_isSorted_X13_passes
set_option maxRecDepth 20000 in
theorem ggX13_isSorted_X13_isInOrder : GoodIn wsX13_isSorted wsX13_isInOrder := goodIn_r _ [17, 18, 19, 20, 4, 21, 22, 23, 24, 25, 26, 27, 28, 29, 30, 31, 32, 33, 34, 35, 36] (by decide +kernel) (by decide +kernel)
set_option maxRecDepth 20000 in
theorem gX13_isSorted_X13_isInOrder : GoodIn wsX13_isSorted (wsV RX13 71 RX13 yX13_isInOrder wsX13_isInOrder) := goodIn_app (goodIn_of _ (by decide +kernel)) ggX13_isSorted_X13_isInOrder
theorem dX13_isSorted_0 : decode cX13_isSorted 0 = .ok (.aload_n 0, 1) := by decide +kernel
theorem dX13_isSorted_1 : decode cX13_isSorted 1 = .ok (.iload_n 1, 1) := by decide +kernel
theorem dX13_isSorted_2 : decode cX13_isSorted 2 = .ok (.invokestatic 44, 3) := by decide +kernel
theorem dX13_isSorted_5 : decode cX13_isSorted 5 = .ok (.iload_n 2, 1) := by decide +kernel
theorem dX13_isSorted_6 : decode cX13_isSorted 6 = .ok (.iconst 0, 1) := by decide +kernel
theorem dX13_isSorted_7 : decode cX13_isSorted 7 = .ok (.iconst 1, 1) := by decide +kernel
theorem dX13_isSorted_8 : decode cX13_isSorted 8 = .ok (.invokestatic 7, 3) := by decide +kernel
theorem dX13_isSorted_11 : decode cX13_isSorted 11 = .ok (.iconst 1, 1) := by decide +kernel
theorem dX13_isSorted_12 : decode cX13_isSorted 12 = .ok (.invokevirtual 55, 3) := by decide +kernel
theorem dX13_isSorted_15 : decode cX13_isSorted 15 = .ok (.ifCond .eq 21, 3) := by decide +kernel
theorem dX13_isSorted_18 : decode cX13_isSorted 18 = .ok (.aload_n 0, 1) := by decide +kernel
theorem dX13_isSorted_19 : decode cX13_isSorted 19 = .ok (.aload_n 0, 1) := by decide +kernel
theorem dX13_isSorted_20 : decode cX13_isSorted 20 = .ok (.getfield 29, 3) := by decide +kernel
theorem dX13_isSorted_23 : decode cX13_isSorted 23 = .ok (.iload_n 1, 1) := by decide +kernel
theorem dX13_isSorted_24 : decode cX13_isSorted 24 = .ok (.aaload, 1) := by decide +kernel
theorem dX13_isSorted_25 : decode cX13_isSorted 25 = .ok (.iload_n 2, 1) := by decide +kernel
theorem dX13_isSorted_26 : decode cX13_isSorted 26 = .ok (.invokevirtual 71, 3) := by decide +kernel
theorem dX13_isSorted_29 : decode cX13_isSorted 29 = .ok (.ifCond .eq 7, 3) := by decide +kernel
theorem dX13_isSorted_32 : decode cX13_isSorted 32 = .ok (.iconst 1, 1) := by decide +kernel
theorem dX13_isSorted_33 : decode cX13_isSorted 33 = .ok (.goto 4, 3) := by decide +kernel
theorem dX13_isSorted_36 : decode cX13_isSorted 36 = .ok (.iconst 0, 1) := by decide +kernel
theorem dX13_isSorted_37 : decode cX13_isSorted 37 = .ok (.ireturn, 1) := by decide +kernel
set_option maxRecDepth 20000 in
theorem ggX13_clear_X13_isTape : GoodIn wsX13_clear wsX13_isTape := goodIn_r _ [6, 7, 8, 5, 9] (by decide +kernel) (by decide +kernel)
set_option maxRecDepth 20000 in
theorem gX13_clear_X13_isTape : GoodIn wsX13_clear (va_wsS RX13 44 yX13_isTape wsX13_isTape) := goodIn_app (goodIn_of _ (by decide +kernel)) ggX13_clear_X13_isTape
set_option maxRecDepth 20000 in
theorem ggX13_clear_X13_passes : GoodIn wsX13_clear wsX13_passes := goodIn_r _ [13, 14, 15, 16, 17, 18, 19, 20, 21, 22, 23, 24, 25, 26, 27, 28] (by decide +kernel) (by decide +kernel)
set_option maxRecDepth 20000 in
theorem gX13_clear_X13_passes : GoodIn wsX13_clear (wsV RX13 55 RX13 yX13_passes wsX13_passes) := goodIn_app (goodIn_of _ (by decide +kernel)) ggX13_clear_X13_passes
theorem dX13_clear_0 : decode cX13_clear 0 = .ok (.aload_n 0, 1) := by decide +kernel
theorem dX13_clear_1 : decode cX13_clear 1 = .ok (.iload_n 1, 1) := by decide +kernel
theorem dX13_clear_2 : decode cX13_clear 2 = .ok (.invokestatic 44, 3) := by decide +kernel
theorem dX13_clear_5 : decode cX13_clear 5 = .ok (.iconst 1, 1) := by decide +kernel
theorem dX13_clear_6 : decode cX13_clear 6 = .ok (.iconst 1, 1) := by decide +kernel
theorem dX13_clear_7 : decode cX13_clear 7 = .ok (.invokevirtual 55, 3) := by decide +kernel
theorem dX13_clear_10 : decode cX13_clear 10 = .ok (.ifCond .ne 5, 3) := by decide +kernel
theorem dX13_clear_13 : decode cX13_clear 13 = .ok (.iconst 0, 1) := by decide +kernel
theorem dX13_clear_14 : decode cX13_clear 14 = .ok (.ireturn, 1) := by decide +kernel
theorem dX13_clear_15 : decode cX13_clear 15 = .ok (.aload_n 0, 1) := by decide +kernel
theorem dX13_clear_16 : decode cX13_clear 16 = .ok (.getfield 29, 3) := by decide +kernel
theorem dX13_clear_19 : decode cX13_clear 19 = .ok (.iload_n 1, 1) := by decide +kernel
theorem dX13_clear_20 : decode cX13_clear 20 = .ok (.aaload, 1) := by decide +kernel
theorem dX13_clear_21 : decode cX13_clear 21 = .ok (.arraylength, 1) := by decide +kernel
theorem dX13_clear_22 : decode cX13_clear 22 = .ok (.istore_n 2, 1) := by decide +kernel
theorem dX13_clear_23 : decode cX13_clear 23 = .ok (.aload_n 0, 1) := by decide +kernel
theorem dX13_clear_24 : decode cX13_clear 24 = .ok (.getfield 29, 3) := by decide +kernel
theorem dX13_clear_27 : decode cX13_clear 27 = .ok (.iload_n 1, 1) := by decide +kernel
theorem dX13_clear_28 : decode cX13_clear 28 = .ok (.iconst 0, 1) := by decide +kernel
theorem dX13_clear_29 : decode cX13_clear 29 = .ok (.newarray .int, 2) := by decide +kernel
theorem dX13_clear_31 : decode cX13_clear 31 = .ok (.aastore, 1) := by decide +kernel
theorem dX13_clear_32 : decode cX13_clear 32 = .ok (.iload_n 2, 1) := by decide +kernel
theorem dX13_clear_33 : decode cX13_clear 33 = .ok (.ireturn, 1) := by decide +kernel
set_option maxRecDepth 20000 in
theorem ggX13_copy_X13_isTape : GoodIn wsX13_copy wsX13_isTape := goodIn_r _ [5, 6, 7, 4, 8] (by decide +kernel) (by decide +kernel)
set_option maxRecDepth 20000 in
theorem gX13_copy_X13_isTape : GoodIn wsX13_copy (va_wsS RX13 44 yX13_isTape wsX13_isTape) := goodIn_app (goodIn_of _ (by decide +kernel)) ggX13_copy_X13_isTape
set_option maxRecDepth 20000 in
theorem ggX13_copy_X13_passes : GoodIn wsX13_copy wsX13_passes := goodIn_r _ [12, 13, 14, 15, 16, 17, 18, 19, 20, 21, 22, 23, 24, 25, 26, 27] (by decide +kernel) (by decide +kernel)
set_option maxRecDepth 20000 in
theorem gX13_copy_X13_passes : GoodIn wsX13_copy (wsV RX13 55 RX13 yX13_passes wsX13_passes) := goodIn_app (goodIn_of _ (by decide +kernel)) ggX13_copy_X13_passes
theorem dX13_copy_0 : decode cX13_copy 0 = .ok (.aload_n 0, 1) := by decide +kernel
theorem dX13_copy_1 : decode cX13_copy 1 = .ok (.iload_n 1, 1) := by decide +kernel
theorem dX13_copy_2 : decode cX13_copy 2 = .ok (.invokestatic 44, 3) := by decide +kernel
theorem dX13_copy_5 : decode cX13_copy 5 = .ok (.ifCond .eq 14, 3) := by decide +kernel
theorem dX13_copy_8 : decode cX13_copy 8 = .ok (.iload_n 2, 1) := by decide +kernel
theorem dX13_copy_9 : decode cX13_copy 9 = .ok (.invokestatic 44, 3) := by decide +kernel
theorem dX13_copy_12 : decode cX13_copy 12 = .ok (.ifCond .eq 7, 3) := by decide +kernel
theorem dX13_copy_15 : decode cX13_copy 15 = .ok (.iconst 1, 1) := by decide +kernel
theorem dX13_copy_16 : decode cX13_copy 16 = .ok (.goto 4, 3) := by decide +kernel
theorem dX13_copy_19 : decode cX13_copy 19 = .ok (.iconst 0, 1) := by decide +kernel
theorem dX13_copy_20 : decode cX13_copy 20 = .ok (.iconst 1, 1) := by decide +kernel
theorem dX13_copy_21 : decode cX13_copy 21 = .ok (.iconst 1, 1) := by decide +kernel
theorem dX13_copy_22 : decode cX13_copy 22 = .ok (.invokevirtual 55, 3) := by decide +kernel
theorem dX13_copy_25 : decode cX13_copy 25 = .ok (.ifCond .ne 5, 3) := by decide +kernel
theorem dX13_copy_28 : decode cX13_copy 28 = .ok (.iconst 0, 1) := by decide +kernel
theorem dX13_copy_29 : decode cX13_copy 29 = .ok (.ireturn, 1) := by decide +kernel
theorem dX13_copy_30 : decode cX13_copy 30 = .ok (.aload_n 0, 1) := by decide +kernel
theorem dX13_copy_31 : decode cX13_copy 31 = .ok (.getfield 29, 3) := by decide +kernel
theorem dX13_copy_34 : decode cX13_copy 34 = .ok (.iload_n 2, 1) := by decide +kernel
theorem dX13_copy_35 : decode cX13_copy 35 = .ok (.aload_n 0, 1) := by decide +kernel
theorem dX13_copy_36 : decode cX13_copy 36 = .ok (.getfield 29, 3) := by decide +kernel
theorem dX13_copy_39 : decode cX13_copy 39 = .ok (.iload_n 1, 1) := by decide +kernel
theorem dX13_copy_40 : decode cX13_copy 40 = .ok (.aaload, 1) := by decide +kernel
theorem dX13_copy_41 : decode cX13_copy 41 = .ok (.aastore, 1) := by decide +kernel
theorem dX13_copy_42 : decode cX13_copy 42 = .ok (.aload_n 0, 1) := by decide +kernel
theorem dX13_copy_43 : decode cX13_copy 43 = .ok (.getfield 29, 3) := by decide +kernel
theorem dX13_copy_46 : decode cX13_copy 46 = .ok (.iload_n 2, 1) := by decide +kernel
theorem dX13_copy_47 : decode cX13_copy 47 = .ok (.aaload, 1) := by decide +kernel
theorem dX13_copy_48 : decode cX13_copy 48 = .ok (.arraylength, 1) := by decide +kernel
theorem dX13_copy_49 : decode cX13_copy 49 = .ok (.ireturn, 1) := by decide +kernel
theorem dX13_turned_0 : decode cX13_turned 0 = .ok (.aload_n 0, 1) := by decide +kernel
theorem dX13_turned_1 : decode cX13_turned 1 = .ok (.arraylength, 1) := by decide +kernel
theorem dX13_turned_2 : decode cX13_turned 2 = .ok (.newarray .int, 2) := by decide +kernel
theorem dX13_turned_4 : decode cX13_turned 4 = .ok (.astore_n 1, 1) := by decide +kernel
theorem dX13_turned_5 : decode cX13_turned 5 = .ok (.iconst 0, 1) := by decide +kernel
theorem dX13_turned_6 : decode cX13_turned 6 = .ok (.istore_n 2, 1) := by decide +kernel
theorem dX13_turned_7 : decode cX13_turned 7 = .ok (.iload_n 2, 1) := by decide +kernel
theorem dX13_turned_8 : decode cX13_turned 8 = .ok (.aload_n 0, 1) := by decide +kernel
theorem dX13_turned_9 : decode cX13_turned 9 = .ok (.arraylength, 1) := by decide +kernel
theorem dX13_turned_10 : decode cX13_turned 10 = .ok (.if_icmp .ge 20, 3) := by decide +kernel
theorem dX13_turned_13 : decode cX13_turned 13 = .ok (.aload_n 1, 1) := by decide +kernel
theorem dX13_turned_14 : decode cX13_turned 14 = .ok (.iload_n 2, 1) := by decide +kernel
theorem dX13_turned_15 : decode cX13_turned 15 = .ok (.aload_n 0, 1) := by decide +kernel
theorem dX13_turned_16 : decode cX13_turned 16 = .ok (.aload_n 0, 1) := by decide +kernel
theorem dX13_turned_17 : decode cX13_turned 17 = .ok (.arraylength, 1) := by decide +kernel
theorem dX13_turned_18 : decode cX13_turned 18 = .ok (.iconst 1, 1) := by decide +kernel
theorem dX13_turned_19 : decode cX13_turned 19 = .ok (.isub, 1) := by decide +kernel
theorem dX13_turned_20 : decode cX13_turned 20 = .ok (.iload_n 2, 1) := by decide +kernel
theorem dX13_turned_21 : decode cX13_turned 21 = .ok (.isub, 1) := by decide +kernel
theorem dX13_turned_22 : decode cX13_turned 22 = .ok (.iaload, 1) := by decide +kernel
theorem dX13_turned_23 : decode cX13_turned 23 = .ok (.iastore, 1) := by decide +kernel
theorem dX13_turned_24 : decode cX13_turned 24 = .ok (.iinc 2 1, 3) := by decide +kernel
theorem dX13_turned_27 : decode cX13_turned 27 = .ok (.goto (-20), 3) := by decide +kernel
theorem dX13_turned_30 : decode cX13_turned 30 = .ok (.aload_n 1, 1) := by decide +kernel
theorem dX13_turned_31 : decode cX13_turned 31 = .ok (.areturn, 1) := by decide +kernel
set_option maxRecDepth 20000 in
theorem ggX13_turn_X13_isTape : GoodIn wsX13_turn wsX13_isTape := goodIn_r _ [5, 6, 7, 4, 8] (by decide +kernel) (by decide +kernel)
set_option maxRecDepth 20000 in
theorem gX13_turn_X13_isTape : GoodIn wsX13_turn (va_wsS RX13 44 yX13_isTape wsX13_isTape) := goodIn_app (goodIn_of _ (by decide +kernel)) ggX13_turn_X13_isTape
set_option maxRecDepth 20000 in
theorem ggX13_turn_X13_passes : GoodIn wsX13_turn wsX13_passes := goodIn_r _ [12, 13, 18, 19, 20, 21, 22, 23, 24, 25, 26, 27, 28, 29, 30, 31] (by decide +kernel) (by decide +kernel)
set_option maxRecDepth 20000 in
theorem gX13_turn_X13_passes : GoodIn wsX13_turn (wsV RX13 55 RX13 yX13_passes wsX13_passes) := goodIn_app (goodIn_of _ (by decide +kernel)) ggX13_turn_X13_passes
set_option maxRecDepth 20000 in
theorem ggX13_turn_X13_turned : GoodIn wsX13_turn wsX13_turned := goodIn_r _ [16, 17] (by decide +kernel) (by decide +kernel)
set_option maxRecDepth 20000 in
theorem gX13_turn_X13_turned : GoodIn wsX13_turn (va_wsS RX13 75 yX13_turned wsX13_turned) := goodIn_app (goodIn_of _ (by decide +kernel)) ggX13_turn_X13_turned
theorem dX13_turn_0 : decode cX13_turn 0 = .ok (.aload_n 0, 1) := by decide +kernel
theorem dX13_turn_1 : decode cX13_turn 1 = .ok (.iload_n 1, 1) := by decide +kernel
theorem dX13_turn_2 : decode cX13_turn 2 = .ok (.invokestatic 44, 3) := by decide +kernel
theorem dX13_turn_5 : decode cX13_turn 5 = .ok (.iconst 1, 1) := by decide +kernel
theorem dX13_turn_6 : decode cX13_turn 6 = .ok (.iconst 1, 1) := by decide +kernel
theorem dX13_turn_7 : decode cX13_turn 7 = .ok (.invokevirtual 55, 3) := by decide +kernel
theorem dX13_turn_10 : decode cX13_turn 10 = .ok (.ifCond .ne 5, 3) := by decide +kernel
theorem dX13_turn_13 : decode cX13_turn 13 = .ok (.iconst 0, 1) := by decide +kernel
theorem dX13_turn_14 : decode cX13_turn 14 = .ok (.ireturn, 1) := by decide +kernel
theorem dX13_turn_15 : decode cX13_turn 15 = .ok (.aload_n 0, 1) := by decide +kernel
theorem dX13_turn_16 : decode cX13_turn 16 = .ok (.getfield 29, 3) := by decide +kernel
theorem dX13_turn_19 : decode cX13_turn 19 = .ok (.iload_n 1, 1) := by decide +kernel
theorem dX13_turn_20 : decode cX13_turn 20 = .ok (.aload_n 0, 1) := by decide +kernel
theorem dX13_turn_21 : decode cX13_turn 21 = .ok (.getfield 29, 3) := by decide +kernel
theorem dX13_turn_24 : decode cX13_turn 24 = .ok (.iload_n 1, 1) := by decide +kernel
theorem dX13_turn_25 : decode cX13_turn 25 = .ok (.aaload, 1) := by decide +kernel
theorem dX13_turn_26 : decode cX13_turn 26 = .ok (.invokestatic 75, 3) := by decide +kernel
theorem dX13_turn_29 : decode cX13_turn 29 = .ok (.aastore, 1) := by decide +kernel
theorem dX13_turn_30 : decode cX13_turn 30 = .ok (.aload_n 0, 1) := by decide +kernel
theorem dX13_turn_31 : decode cX13_turn 31 = .ok (.getfield 29, 3) := by decide +kernel
theorem dX13_turn_34 : decode cX13_turn 34 = .ok (.iload_n 1, 1) := by decide +kernel
theorem dX13_turn_35 : decode cX13_turn 35 = .ok (.aaload, 1) := by decide +kernel
theorem dX13_turn_36 : decode cX13_turn 36 = .ok (.arraylength, 1) := by decide +kernel
theorem dX13_turn_37 : decode cX13_turn 37 = .ok (.ireturn, 1) := by decide +kernel
set_option maxRecDepth 20000 in
theorem ggX13_setRuns_X13_in : GoodIn wsX13_setRuns wsX13_in := goodIn_r _ [5] (by decide +kernel) (by decide +kernel)
set_option maxRecDepth 20000 in
theorem gX13_setRuns_X13_in : GoodIn wsX13_setRuns (va_wsS RX13 7 yX13_in wsX13_in) := goodIn_app (goodIn_of _ (by decide +kernel)) ggX13_setRuns_X13_in
set_option maxRecDepth 20000 in
theorem ggX13_setRuns_X13_passes : GoodIn wsX13_setRuns wsX13_passes := goodIn_r _ [9, 10, 11, 12, 13, 14, 15, 16, 17, 18, 19, 20, 21, 22, 23, 24] (by decide +kernel) (by decide +kernel)
set_option maxRecDepth 20000 in
theorem gX13_setRuns_X13_passes : GoodIn wsX13_setRuns (wsV RX13 55 RX13 yX13_passes wsX13_passes) := goodIn_app (goodIn_of _ (by decide +kernel)) ggX13_setRuns_X13_passes
theorem dX13_setRuns_0 : decode cX13_setRuns 0 = .ok (.aload_n 0, 1) := by decide +kernel
theorem dX13_setRuns_1 : decode cX13_setRuns 1 = .ok (.iload_n 1, 1) := by decide +kernel
theorem dX13_setRuns_2 : decode cX13_setRuns 2 = .ok (.iconst 0, 1) := by decide +kernel
theorem dX13_setRuns_3 : decode cX13_setRuns 3 = .ok (.iconst 1, 1) := by decide +kernel
theorem dX13_setRuns_4 : decode cX13_setRuns 4 = .ok (.invokestatic 7, 3) := by decide +kernel
theorem dX13_setRuns_7 : decode cX13_setRuns 7 = .ok (.ifCond .eq 26, 3) := by decide +kernel
theorem dX13_setRuns_10 : decode cX13_setRuns 10 = .ok (.iload_n 2, 1) := by decide +kernel
theorem dX13_setRuns_11 : decode cX13_setRuns 11 = .ok (.iconst 0, 1) := by decide +kernel
theorem dX13_setRuns_12 : decode cX13_setRuns 12 = .ok (.iconst 2, 1) := by decide +kernel
theorem dX13_setRuns_13 : decode cX13_setRuns 13 = .ok (.invokestatic 7, 3) := by decide +kernel
theorem dX13_setRuns_16 : decode cX13_setRuns 16 = .ok (.ifCond .eq 17, 3) := by decide +kernel
theorem dX13_setRuns_19 : decode cX13_setRuns 19 = .ok (.iload_n 3, 1) := by decide +kernel
theorem dX13_setRuns_20 : decode cX13_setRuns 20 = .ok (.iconst 1, 1) := by decide +kernel
theorem dX13_setRuns_21 : decode cX13_setRuns 21 = .ok (.bipush 50, 2) := by decide +kernel
theorem dX13_setRuns_23 : decode cX13_setRuns 23 = .ok (.invokestatic 7, 3) := by decide +kernel
theorem dX13_setRuns_26 : decode cX13_setRuns 26 = .ok (.ifCond .eq 7, 3) := by decide +kernel
theorem dX13_setRuns_29 : decode cX13_setRuns 29 = .ok (.iconst 1, 1) := by decide +kernel
theorem dX13_setRuns_30 : decode cX13_setRuns 30 = .ok (.goto 4, 3) := by decide +kernel
theorem dX13_setRuns_33 : decode cX13_setRuns 33 = .ok (.iconst 0, 1) := by decide +kernel
theorem dX13_setRuns_34 : decode cX13_setRuns 34 = .ok (.iconst 1, 1) := by decide +kernel
theorem dX13_setRuns_35 : decode cX13_setRuns 35 = .ok (.iconst 1, 1) := by decide +kernel
theorem dX13_setRuns_36 : decode cX13_setRuns 36 = .ok (.invokevirtual 55, 3) := by decide +kernel
theorem dX13_setRuns_39 : decode cX13_setRuns 39 = .ok (.ifCond .ne 5, 3) := by decide +kernel
theorem dX13_setRuns_42 : decode cX13_setRuns 42 = .ok (.iconst 0, 1) := by decide +kernel
theorem dX13_setRuns_43 : decode cX13_setRuns 43 = .ok (.ireturn, 1) := by decide +kernel
theorem dX13_setRuns_44 : decode cX13_setRuns 44 = .ok (.aload_n 0, 1) := by decide +kernel
theorem dX13_setRuns_45 : decode cX13_setRuns 45 = .ok (.getfield 35, 3) := by decide +kernel
theorem dX13_setRuns_48 : decode cX13_setRuns 48 = .ok (.iconst 2, 1) := by decide +kernel
theorem dX13_setRuns_49 : decode cX13_setRuns 49 = .ok (.iaload, 1) := by decide +kernel
theorem dX13_setRuns_50 : decode cX13_setRuns 50 = .ok (.istore 4, 2) := by decide +kernel
theorem dX13_setRuns_52 : decode cX13_setRuns 52 = .ok (.aload_n 0, 1) := by decide +kernel
theorem dX13_setRuns_53 : decode cX13_setRuns 53 = .ok (.getfield 35, 3) := by decide +kernel
theorem dX13_setRuns_56 : decode cX13_setRuns 56 = .ok (.iconst 0, 1) := by decide +kernel
theorem dX13_setRuns_57 : decode cX13_setRuns 57 = .ok (.iload_n 1, 1) := by decide +kernel
theorem dX13_setRuns_58 : decode cX13_setRuns 58 = .ok (.iastore, 1) := by decide +kernel
theorem dX13_setRuns_59 : decode cX13_setRuns 59 = .ok (.aload_n 0, 1) := by decide +kernel
theorem dX13_setRuns_60 : decode cX13_setRuns 60 = .ok (.getfield 35, 3) := by decide +kernel
theorem dX13_setRuns_63 : decode cX13_setRuns 63 = .ok (.iconst 1, 1) := by decide +kernel
theorem dX13_setRuns_64 : decode cX13_setRuns 64 = .ok (.iload_n 2, 1) := by decide +kernel
theorem dX13_setRuns_65 : decode cX13_setRuns 65 = .ok (.iastore, 1) := by decide +kernel
theorem dX13_setRuns_66 : decode cX13_setRuns 66 = .ok (.aload_n 0, 1) := by decide +kernel
theorem dX13_setRuns_67 : decode cX13_setRuns 67 = .ok (.getfield 35, 3) := by decide +kernel
theorem dX13_setRuns_70 : decode cX13_setRuns 70 = .ok (.iconst 2, 1) := by decide +kernel
theorem dX13_setRuns_71 : decode cX13_setRuns 71 = .ok (.iload_n 3, 1) := by decide +kernel
theorem dX13_setRuns_72 : decode cX13_setRuns 72 = .ok (.iastore, 1) := by decide +kernel
theorem dX13_setRuns_73 : decode cX13_setRuns 73 = .ok (.iload 4, 2) := by decide +kernel
theorem dX13_setRuns_75 : decode cX13_setRuns 75 = .ok (.ireturn, 1) := by decide +kernel
set_option maxRecDepth 20000 in
theorem ggX13_setMerge_X13_in : GoodIn wsX13_setMerge wsX13_in := goodIn_r _ [5] (by decide +kernel) (by decide +kernel)
set_option maxRecDepth 20000 in
theorem gX13_setMerge_X13_in : GoodIn wsX13_setMerge (va_wsS RX13 7 yX13_in wsX13_in) := goodIn_app (goodIn_of _ (by decide +kernel)) ggX13_setMerge_X13_in
set_option maxRecDepth 20000 in
theorem ggX13_setMerge_X13_passes : GoodIn wsX13_setMerge wsX13_passes := goodIn_r _ [9, 10, 11, 12, 13, 14, 15, 16, 17, 18, 19, 20, 21, 22, 23, 24] (by decide +kernel) (by decide +kernel)
set_option maxRecDepth 20000 in
theorem gX13_setMerge_X13_passes : GoodIn wsX13_setMerge (wsV RX13 55 RX13 yX13_passes wsX13_passes) := goodIn_app (goodIn_of _ (by decide +kernel)) ggX13_setMerge_X13_passes
theorem dX13_setMerge_0 : decode cX13_setMerge 0 = .ok (.aload_n 0, 1) := by decide +kernel
theorem dX13_setMerge_1 : decode cX13_setMerge 1 = .ok (.iload_n 1, 1) := by decide +kernel
theorem dX13_setMerge_2 : decode cX13_setMerge 2 = .ok (.iconst 0, 1) := by decide +kernel
theorem dX13_setMerge_3 : decode cX13_setMerge 3 = .ok (.iconst 2, 1) := by decide +kernel
theorem dX13_setMerge_4 : decode cX13_setMerge 4 = .ok (.invokestatic 7, 3) := by decide +kernel
theorem dX13_setMerge_7 : decode cX13_setMerge 7 = .ok (.ifCond .eq 17, 3) := by decide +kernel
theorem dX13_setMerge_10 : decode cX13_setMerge 10 = .ok (.iload_n 2, 1) := by decide +kernel
theorem dX13_setMerge_11 : decode cX13_setMerge 11 = .ok (.iconst 2, 1) := by decide +kernel
theorem dX13_setMerge_12 : decode cX13_setMerge 12 = .ok (.bipush 6, 2) := by decide +kernel
theorem dX13_setMerge_14 : decode cX13_setMerge 14 = .ok (.invokestatic 7, 3) := by decide +kernel
theorem dX13_setMerge_17 : decode cX13_setMerge 17 = .ok (.ifCond .eq 7, 3) := by decide +kernel
theorem dX13_setMerge_20 : decode cX13_setMerge 20 = .ok (.iconst 1, 1) := by decide +kernel
theorem dX13_setMerge_21 : decode cX13_setMerge 21 = .ok (.goto 4, 3) := by decide +kernel
theorem dX13_setMerge_24 : decode cX13_setMerge 24 = .ok (.iconst 0, 1) := by decide +kernel
theorem dX13_setMerge_25 : decode cX13_setMerge 25 = .ok (.iconst 1, 1) := by decide +kernel
theorem dX13_setMerge_26 : decode cX13_setMerge 26 = .ok (.iconst 1, 1) := by decide +kernel
theorem dX13_setMerge_27 : decode cX13_setMerge 27 = .ok (.invokevirtual 55, 3) := by decide +kernel
theorem dX13_setMerge_30 : decode cX13_setMerge 30 = .ok (.ifCond .ne 5, 3) := by decide +kernel
theorem dX13_setMerge_33 : decode cX13_setMerge 33 = .ok (.iconst 0, 1) := by decide +kernel
theorem dX13_setMerge_34 : decode cX13_setMerge 34 = .ok (.ireturn, 1) := by decide +kernel
theorem dX13_setMerge_35 : decode cX13_setMerge 35 = .ok (.aload_n 0, 1) := by decide +kernel
theorem dX13_setMerge_36 : decode cX13_setMerge 36 = .ok (.getfield 35, 3) := by decide +kernel
theorem dX13_setMerge_39 : decode cX13_setMerge 39 = .ok (.iconst 4, 1) := by decide +kernel
theorem dX13_setMerge_40 : decode cX13_setMerge 40 = .ok (.iaload, 1) := by decide +kernel
theorem dX13_setMerge_41 : decode cX13_setMerge 41 = .ok (.istore_n 3, 1) := by decide +kernel
theorem dX13_setMerge_42 : decode cX13_setMerge 42 = .ok (.aload_n 0, 1) := by decide +kernel
theorem dX13_setMerge_43 : decode cX13_setMerge 43 = .ok (.getfield 35, 3) := by decide +kernel
theorem dX13_setMerge_46 : decode cX13_setMerge 46 = .ok (.iconst 3, 1) := by decide +kernel
theorem dX13_setMerge_47 : decode cX13_setMerge 47 = .ok (.iload_n 1, 1) := by decide +kernel
theorem dX13_setMerge_48 : decode cX13_setMerge 48 = .ok (.iastore, 1) := by decide +kernel
theorem dX13_setMerge_49 : decode cX13_setMerge 49 = .ok (.aload_n 0, 1) := by decide +kernel
theorem dX13_setMerge_50 : decode cX13_setMerge 50 = .ok (.getfield 35, 3) := by decide +kernel
theorem dX13_setMerge_53 : decode cX13_setMerge 53 = .ok (.iconst 4, 1) := by decide +kernel
theorem dX13_setMerge_54 : decode cX13_setMerge 54 = .ok (.iload_n 2, 1) := by decide +kernel
theorem dX13_setMerge_55 : decode cX13_setMerge 55 = .ok (.iastore, 1) := by decide +kernel
theorem dX13_setMerge_56 : decode cX13_setMerge 56 = .ok (.iload_n 3, 1) := by decide +kernel
theorem dX13_setMerge_57 : decode cX13_setMerge 57 = .ok (.ireturn, 1) := by decide +kernel
set_option maxRecDepth 20000 in
theorem ggX13_setting_X13_in : GoodIn wsX13_setting wsX13_in := goodIn_r _ [5] (by decide +kernel) (by decide +kernel)
set_option maxRecDepth 20000 in
theorem gX13_setting_X13_in : GoodIn wsX13_setting (va_wsS RX13 7 yX13_in wsX13_in) := goodIn_app (goodIn_of _ (by decide +kernel)) ggX13_setting_X13_in
set_option maxRecDepth 20000 in
theorem ggX13_setting_X13_passes : GoodIn wsX13_setting wsX13_passes := goodIn_r _ [9, 10, 11, 12, 13, 14, 15, 16, 17, 18, 19, 20, 21, 22, 23, 24] (by decide +kernel) (by decide +kernel)
set_option maxRecDepth 20000 in
theorem gX13_setting_X13_passes : GoodIn wsX13_setting (wsV RX13 55 RX13 yX13_passes wsX13_passes) := goodIn_app (goodIn_of _ (by decide +kernel)) ggX13_setting_X13_passes
theorem dX13_setting_0 : decode cX13_setting 0 = .ok (.aload_n 0, 1) := by decide +kernel
theorem dX13_setting_1 : decode cX13_setting 1 = .ok (.iload_n 1, 1) := by decide +kernel
theorem dX13_setting_2 : decode cX13_setting 2 = .ok (.iconst 0, 1) := by decide +kernel
theorem dX13_setting_3 : decode cX13_setting 3 = .ok (.iconst 4, 1) := by decide +kernel
theorem dX13_setting_4 : decode cX13_setting 4 = .ok (.invokestatic 7, 3) := by decide +kernel
theorem dX13_setting_7 : decode cX13_setting 7 = .ok (.iconst 1, 1) := by decide +kernel
theorem dX13_setting_8 : decode cX13_setting 8 = .ok (.iconst 1, 1) := by decide +kernel
theorem dX13_setting_9 : decode cX13_setting 9 = .ok (.invokevirtual 55, 3) := by decide +kernel
theorem dX13_setting_12 : decode cX13_setting 12 = .ok (.ifCond .eq 12, 3) := by decide +kernel
theorem dX13_setting_15 : decode cX13_setting 15 = .ok (.aload_n 0, 1) := by decide +kernel
theorem dX13_setting_16 : decode cX13_setting 16 = .ok (.getfield 35, 3) := by decide +kernel
theorem dX13_setting_19 : decode cX13_setting 19 = .ok (.iload_n 1, 1) := by decide +kernel
theorem dX13_setting_20 : decode cX13_setting 20 = .ok (.iaload, 1) := by decide +kernel
theorem dX13_setting_21 : decode cX13_setting 21 = .ok (.goto 4, 3) := by decide +kernel
theorem dX13_setting_24 : decode cX13_setting 24 = .ok (.iconst 0, 1) := by decide +kernel
theorem dX13_setting_25 : decode cX13_setting 25 = .ok (.ireturn, 1) := by decide +kernel
theorem dX13_part_0 : decode cX13_part 0 = .ok (.iload_n 2, 1) := by decide +kernel
theorem dX13_part_1 : decode cX13_part 1 = .ok (.iload_n 1, 1) := by decide +kernel
theorem dX13_part_2 : decode cX13_part 2 = .ok (.isub, 1) := by decide +kernel
theorem dX13_part_3 : decode cX13_part 3 = .ok (.newarray .int, 2) := by decide +kernel
theorem dX13_part_5 : decode cX13_part 5 = .ok (.astore_n 3, 1) := by decide +kernel
theorem dX13_part_6 : decode cX13_part 6 = .ok (.iload_n 1, 1) := by decide +kernel
theorem dX13_part_7 : decode cX13_part 7 = .ok (.istore 4, 2) := by decide +kernel
theorem dX13_part_9 : decode cX13_part 9 = .ok (.iload 4, 2) := by decide +kernel
theorem dX13_part_11 : decode cX13_part 11 = .ok (.iload_n 2, 1) := by decide +kernel
theorem dX13_part_12 : decode cX13_part 12 = .ok (.if_icmp .ge 19, 3) := by decide +kernel
theorem dX13_part_15 : decode cX13_part 15 = .ok (.aload_n 3, 1) := by decide +kernel
theorem dX13_part_16 : decode cX13_part 16 = .ok (.iload 4, 2) := by decide +kernel
theorem dX13_part_18 : decode cX13_part 18 = .ok (.iload_n 1, 1) := by decide +kernel
theorem dX13_part_19 : decode cX13_part 19 = .ok (.isub, 1) := by decide +kernel
theorem dX13_part_20 : decode cX13_part 20 = .ok (.aload_n 0, 1) := by decide +kernel
theorem dX13_part_21 : decode cX13_part 21 = .ok (.iload 4, 2) := by decide +kernel
theorem dX13_part_23 : decode cX13_part 23 = .ok (.iaload, 1) := by decide +kernel
theorem dX13_part_24 : decode cX13_part 24 = .ok (.iastore, 1) := by decide +kernel
theorem dX13_part_25 : decode cX13_part 25 = .ok (.iinc 4 1, 3) := by decide +kernel
theorem dX13_part_28 : decode cX13_part 28 = .ok (.goto (-19), 3) := by decide +kernel
theorem dX13_part_31 : decode cX13_part 31 = .ok (.aload_n 3, 1) := by decide +kernel
theorem dX13_part_32 : decode cX13_part 32 = .ok (.areturn, 1) := by decide +kernel
set_option maxRecDepth 20000 in
theorem ggX13_rowOf_Jx4a65c_size_8abf5 : GoodIn wsX13_rowOf wsJx4a65c_size_8abf5 := goodIn_r _ [7, 8, 32, 33, 34] (by decide +kernel) (by decide +kernel)
set_option maxRecDepth 20000 in
theorem gX13_rowOf_Jx4a65c_size_8abf5_f79Jx4a65c : GoodIn wsX13_rowOf (va_wsF RX13 79 RJx4a65c ⟨"java/util/List", "size", "()I"⟩ yJx4a65c_size_8abf5 wsJx4a65c_size_8abf5) := goodIn_app (goodIn_of _ (by decide +kernel)) ggX13_rowOf_Jx4a65c_size_8abf5
set_option maxRecDepth 20000 in
theorem ggX13_rowOf_Jx4a65c_get_915e3 : GoodIn wsX13_rowOf wsJx4a65c_get_915e3 := goodIn_r _ [12, 8, 13, 14, 15, 16, 17, 18, 19, 20, 21, 22, 23, 6, 24, 25, 32, 33, 34] (by decide +kernel) (by decide +kernel)
set_option maxRecDepth 20000 in
theorem gX13_rowOf_Jx4a65c_get_915e3_f85Jx4a65c : GoodIn wsX13_rowOf (va_wsF RX13 85 RJx4a65c ⟨"java/util/List", "get", "(I)Ljava/lang/Object;"⟩ yJx4a65c_get_915e3 wsJx4a65c_get_915e3) := goodIn_app (goodIn_of _ (by decide +kernel)) ggX13_rowOf_Jx4a65c_get_915e3
set_option maxRecDepth 20000 in
theorem ggX13_rowOf_J6_intValue_8abf5 : GoodIn wsX13_rowOf wsJ6_intValue_8abf5 := goodIn_r _ [30, 31, 35] (by decide +kernel) (by decide +kernel)
set_option maxRecDepth 20000 in
theorem gX13_rowOf_J6_intValue_8abf5 : GoodIn wsX13_rowOf (wsV RX13 91 RJ6 yJ6_intValue_8abf5 wsJ6_intValue_8abf5) := goodIn_app (goodIn_of _ (by decide +kernel)) ggX13_rowOf_J6_intValue_8abf5
theorem dX13_rowOf_0 : decode cX13_rowOf 0 = .ok (.aload_n 0, 1) := by decide +kernel
theorem dX13_rowOf_1 : decode cX13_rowOf 1 = .ok (.invokeinterface 79 1, 5) := by decide +kernel
theorem dX13_rowOf_6 : decode cX13_rowOf 6 = .ok (.newarray .int, 2) := by decide +kernel
theorem dX13_rowOf_8 : decode cX13_rowOf 8 = .ok (.astore_n 1, 1) := by decide +kernel
theorem dX13_rowOf_9 : decode cX13_rowOf 9 = .ok (.iconst 0, 1) := by decide +kernel
theorem dX13_rowOf_10 : decode cX13_rowOf 10 = .ok (.istore_n 2, 1) := by decide +kernel
theorem dX13_rowOf_11 : decode cX13_rowOf 11 = .ok (.iload_n 2, 1) := by decide +kernel
theorem dX13_rowOf_12 : decode cX13_rowOf 12 = .ok (.aload_n 1, 1) := by decide +kernel
theorem dX13_rowOf_13 : decode cX13_rowOf 13 = .ok (.arraylength, 1) := by decide +kernel
theorem dX13_rowOf_14 : decode cX13_rowOf 14 = .ok (.if_icmp .ge 25, 3) := by decide +kernel
theorem dX13_rowOf_17 : decode cX13_rowOf 17 = .ok (.aload_n 1, 1) := by decide +kernel
theorem dX13_rowOf_18 : decode cX13_rowOf 18 = .ok (.iload_n 2, 1) := by decide +kernel
theorem dX13_rowOf_19 : decode cX13_rowOf 19 = .ok (.aload_n 0, 1) := by decide +kernel
theorem dX13_rowOf_20 : decode cX13_rowOf 20 = .ok (.iload_n 2, 1) := by decide +kernel
theorem dX13_rowOf_21 : decode cX13_rowOf 21 = .ok (.invokeinterface 85 2, 5) := by decide +kernel
theorem dX13_rowOf_26 : decode cX13_rowOf 26 = .ok (.checkcast 89, 3) := by decide +kernel
theorem dX13_rowOf_29 : decode cX13_rowOf 29 = .ok (.invokevirtual 91, 3) := by decide +kernel
theorem dX13_rowOf_32 : decode cX13_rowOf 32 = .ok (.iastore, 1) := by decide +kernel
theorem dX13_rowOf_33 : decode cX13_rowOf 33 = .ok (.iinc 2 1, 3) := by decide +kernel
theorem dX13_rowOf_36 : decode cX13_rowOf 36 = .ok (.goto (-25), 3) := by decide +kernel
theorem dX13_rowOf_39 : decode cX13_rowOf 39 = .ok (.aload_n 1, 1) := by decide +kernel
theorem dX13_rowOf_40 : decode cX13_rowOf 40 = .ok (.areturn, 1) := by decide +kernel
set_option maxRecDepth 20000 in
theorem ggX13_runsOf_X13_replaced : GoodIn wsX13_runsOf wsX13_replaced := goodIn_r _ [8, 1, 2, 3, 9, 10, 11, 12, 13, 14, 15, 16, 17, 18, 19, 20, 21, 22, 23, 24, 25, 26, 27, 28, 29, 30, 31, 32, 33, 34, 35, 36, 37, 38, 39, 40, 41, 42, 43, 44, 45, 46, 47, 48, 49, 50, 51, 52, 53, 54, 55, 56, 57, 58, 59, 60, 61, 62, 63, 64, 65, 66, 67, 68, 69, 70, 71, 72, 73, 74, 75, 76, 77, 78, 79, 80, 81, 82, 83, 84, 85, 86, 87, 88, 89, 90, 91, 92, 93, 94, 95, 96, 97, 98, 99, 100, 101, 102, 103, 104, 7, 105, 106, 107, 108, 109, 110, 111, 112, 113, 114, 115, 116, 117, 118, 119, 120, 121, 122, 123, 124, 125, 126, 127, 128, 129, 130, 131, 132, 133, 134, 135, 136, 137, 138, 139, 140, 141, 142, 143, 144, 145, 146, 147, 155, 156, 157, 158, 159, 160, 161, 162, 163, 164, 165, 166, 167, 168, 169, 170, 171, 172] (by decide +kernel) (by decide +kernel)
set_option maxRecDepth 20000 in
theorem gX13_runsOf_X13_replaced : GoodIn wsX13_runsOf (wsV RX13 94 RX13 yX13_replaced wsX13_replaced) := goodIn_app (goodIn_of _ (by decide +kernel)) ggX13_runsOf_X13_replaced
set_option maxRecDepth 20000 in
theorem ggX13_runsOf_Jx4a65c_init_da8c8 : GoodIn wsX13_runsOf wsJx4a65c_init_da8c8 := goodIn_r _ [16, 17, 18, 19, 20, 21, 22, 23, 24, 25, 26, 27, 28, 29, 30, 155, 156, 157] (by decide +kernel) (by decide +kernel)
set_option maxRecDepth 20000 in
theorem gX13_runsOf_Jx4a65c_init_da8c8 : GoodIn wsX13_runsOf (wsJx4a65c_init_da8c8) := ggX13_runsOf_Jx4a65c_init_da8c8
set_option maxRecDepth 20000 in
theorem ggX13_runsOf_X13_isBefore : GoodIn wsX13_runsOf wsX13_isBefore := goodIn_r _ [133, 134, 159, 160, 161, 162, 163, 164, 165, 166, 167, 168, 169, 170, 171, 172] (by decide +kernel) (by decide +kernel)
set_option maxRecDepth 20000 in
theorem gX13_runsOf_X13_isBefore : GoodIn wsX13_runsOf (wsV RX13 15 RX13 yX13_isBefore wsX13_isBefore) := goodIn_app (goodIn_of _ (by decide +kernel)) ggX13_runsOf_X13_isBefore
set_option maxRecDepth 20000 in
theorem ggX13_runsOf_X13_part : GoodIn wsX13_runsOf wsX13_part := goodIn_r _ [150, 147] (by decide +kernel) (by decide +kernel)
set_option maxRecDepth 20000 in
theorem gX13_runsOf_X13_part : GoodIn wsX13_runsOf (va_wsS RX13 101 yX13_part wsX13_part) := goodIn_app (goodIn_of _ (by decide +kernel)) ggX13_runsOf_X13_part
set_option maxRecDepth 20000 in
theorem ggX13_runsOf_X13_inserts : GoodIn wsX13_runsOf wsX13_inserts := goodIn_r _ [154, 130, 131, 132, 7, 133, 134, 159, 160, 161, 162, 163, 164, 165, 166, 167, 168, 169, 170, 171, 172] (by decide +kernel) (by decide +kernel)
set_option maxRecDepth 20000 in
theorem gX13_runsOf_X13_inserts : GoodIn wsX13_runsOf (wsV RX13 105 RX13 yX13_inserts wsX13_inserts) := goodIn_app (goodIn_of _ (by decide +kernel)) ggX13_runsOf_X13_inserts
set_option maxRecDepth 20000 in
theorem ggX13_runsOf_Jx4a65c_add_9ea2d : GoodIn wsX13_runsOf wsJx4a65c_add_9ea2d := goodIn_r _ [51, 52, 53, 18, 54, 55, 56, 57, 3, 58, 59, 60, 61, 62, 63, 64, 65, 66, 17, 67, 68, 11, 69, 70, 71, 72, 73, 74, 75, 76, 77, 78, 79, 80, 81, 82, 83, 84, 85, 86, 87, 88, 89, 90, 91, 92, 93, 10, 12, 94, 95, 96, 97, 155, 156, 157] (by decide +kernel) (by decide +kernel)
set_option maxRecDepth 20000 in
theorem gX13_runsOf_Jx4a65c_add_9ea2d_f109Jx4a65c : GoodIn wsX13_runsOf (va_wsF RX13 109 RJx4a65c ⟨"java/util/List", "add", "(Ljava/lang/Object;)Z"⟩ yJx4a65c_add_9ea2d wsJx4a65c_add_9ea2d) := goodIn_app (goodIn_of _ (by decide +kernel)) ggX13_runsOf_Jx4a65c_add_9ea2d
theorem dX13_runsOf_0 : decode cX13_runsOf 0 = .ok (.aload_n 2, 1) := by decide +kernel
theorem dX13_runsOf_1 : decode cX13_runsOf 1 = .ok (.iconst 1, 1) := by decide +kernel
theorem dX13_runsOf_2 : decode cX13_runsOf 2 = .ok (.iaload, 1) := by decide +kernel
theorem dX13_runsOf_3 : decode cX13_runsOf 3 = .ok (.iconst 1, 1) := by decide +kernel
theorem dX13_runsOf_4 : decode cX13_runsOf 4 = .ok (.if_icmp .ne 15, 3) := by decide +kernel
theorem dX13_runsOf_7 : decode cX13_runsOf 7 = .ok (.aload_n 0, 1) := by decide +kernel
theorem dX13_runsOf_8 : decode cX13_runsOf 8 = .ok (.aload_n 1, 1) := by decide +kernel
theorem dX13_runsOf_9 : decode cX13_runsOf 9 = .ok (.aload_n 2, 1) := by decide +kernel
theorem dX13_runsOf_10 : decode cX13_runsOf 10 = .ok (.iconst 0, 1) := by decide +kernel
theorem dX13_runsOf_11 : decode cX13_runsOf 11 = .ok (.iaload, 1) := by decide +kernel
theorem dX13_runsOf_12 : decode cX13_runsOf 12 = .ok (.aload_n 2, 1) := by decide +kernel
theorem dX13_runsOf_13 : decode cX13_runsOf 13 = .ok (.iconst 2, 1) := by decide +kernel
theorem dX13_runsOf_14 : decode cX13_runsOf 14 = .ok (.iaload, 1) := by decide +kernel
theorem dX13_runsOf_15 : decode cX13_runsOf 15 = .ok (.invokevirtual 94, 3) := by decide +kernel
theorem dX13_runsOf_18 : decode cX13_runsOf 18 = .ok (.areturn, 1) := by decide +kernel
theorem dX13_runsOf_19 : decode cX13_runsOf 19 = .ok (.new 98, 3) := by decide +kernel
theorem dX13_runsOf_22 : decode cX13_runsOf 22 = .ok (.dup, 1) := by decide +kernel
theorem dX13_runsOf_23 : decode cX13_runsOf 23 = .ok (.invokespecial 100, 3) := by decide +kernel
theorem dX13_runsOf_26 : decode cX13_runsOf 26 = .ok (.astore_n 3, 1) := by decide +kernel
theorem dX13_runsOf_27 : decode cX13_runsOf 27 = .ok (.iconst 0, 1) := by decide +kernel
theorem dX13_runsOf_28 : decode cX13_runsOf 28 = .ok (.istore 4, 2) := by decide +kernel
theorem dX13_runsOf_30 : decode cX13_runsOf 30 = .ok (.iload 4, 2) := by decide +kernel
theorem dX13_runsOf_32 : decode cX13_runsOf 32 = .ok (.aload_n 1, 1) := by decide +kernel
theorem dX13_runsOf_33 : decode cX13_runsOf 33 = .ok (.arraylength, 1) := by decide +kernel
theorem dX13_runsOf_34 : decode cX13_runsOf 34 = .ok (.if_icmp .ge 97, 3) := by decide +kernel
theorem dX13_runsOf_37 : decode cX13_runsOf 37 = .ok (.iload 4, 2) := by decide +kernel
theorem dX13_runsOf_39 : decode cX13_runsOf 39 = .ok (.iconst 1, 1) := by decide +kernel
theorem dX13_runsOf_40 : decode cX13_runsOf 40 = .ok (.iadd, 1) := by decide +kernel
theorem dX13_runsOf_41 : decode cX13_runsOf 41 = .ok (.istore 5, 2) := by decide +kernel
theorem dX13_runsOf_43 : decode cX13_runsOf 43 = .ok (.iload 5, 2) := by decide +kernel
theorem dX13_runsOf_45 : decode cX13_runsOf 45 = .ok (.aload_n 1, 1) := by decide +kernel
theorem dX13_runsOf_46 : decode cX13_runsOf 46 = .ok (.arraylength, 1) := by decide +kernel
theorem dX13_runsOf_47 : decode cX13_runsOf 47 = .ok (.if_icmp .ge 49, 3) := by decide +kernel
theorem dX13_runsOf_50 : decode cX13_runsOf 50 = .ok (.aload_n 2, 1) := by decide +kernel
theorem dX13_runsOf_51 : decode cX13_runsOf 51 = .ok (.iconst 1, 1) := by decide +kernel
theorem dX13_runsOf_52 : decode cX13_runsOf 52 = .ok (.iaload, 1) := by decide +kernel
theorem dX13_runsOf_53 : decode cX13_runsOf 53 = .ok (.ifCond .ne 17, 3) := by decide +kernel
theorem dX13_runsOf_56 : decode cX13_runsOf 56 = .ok (.iload 5, 2) := by decide +kernel
theorem dX13_runsOf_58 : decode cX13_runsOf 58 = .ok (.iload 4, 2) := by decide +kernel
theorem dX13_runsOf_60 : decode cX13_runsOf 60 = .ok (.isub, 1) := by decide +kernel
theorem dX13_runsOf_61 : decode cX13_runsOf 61 = .ok (.aload_n 2, 1) := by decide +kernel
theorem dX13_runsOf_62 : decode cX13_runsOf 62 = .ok (.iconst 2, 1) := by decide +kernel
theorem dX13_runsOf_63 : decode cX13_runsOf 63 = .ok (.iaload, 1) := by decide +kernel
theorem dX13_runsOf_64 : decode cX13_runsOf 64 = .ok (.if_icmp .ge 32, 3) := by decide +kernel
theorem dX13_runsOf_67 : decode cX13_runsOf 67 = .ok (.goto 23, 3) := by decide +kernel
theorem dX13_runsOf_70 : decode cX13_runsOf 70 = .ok (.aload_n 0, 1) := by decide +kernel
theorem dX13_runsOf_71 : decode cX13_runsOf 71 = .ok (.aload_n 1, 1) := by decide +kernel
theorem dX13_runsOf_72 : decode cX13_runsOf 72 = .ok (.iload 5, 2) := by decide +kernel
theorem dX13_runsOf_74 : decode cX13_runsOf 74 = .ok (.iaload, 1) := by decide +kernel
theorem dX13_runsOf_75 : decode cX13_runsOf 75 = .ok (.aload_n 1, 1) := by decide +kernel
theorem dX13_runsOf_76 : decode cX13_runsOf 76 = .ok (.iload 5, 2) := by decide +kernel
theorem dX13_runsOf_78 : decode cX13_runsOf 78 = .ok (.iconst 1, 1) := by decide +kernel
theorem dX13_runsOf_79 : decode cX13_runsOf 79 = .ok (.isub, 1) := by decide +kernel
theorem dX13_runsOf_80 : decode cX13_runsOf 80 = .ok (.iaload, 1) := by decide +kernel
theorem dX13_runsOf_81 : decode cX13_runsOf 81 = .ok (.aload_n 2, 1) := by decide +kernel
theorem dX13_runsOf_82 : decode cX13_runsOf 82 = .ok (.iconst 0, 1) := by decide +kernel
theorem dX13_runsOf_83 : decode cX13_runsOf 83 = .ok (.iaload, 1) := by decide +kernel
theorem dX13_runsOf_84 : decode cX13_runsOf 84 = .ok (.invokevirtual 15, 3) := by decide +kernel
theorem dX13_runsOf_87 : decode cX13_runsOf 87 = .ok (.ifCond .ne 9, 3) := by decide +kernel
theorem dX13_runsOf_90 : decode cX13_runsOf 90 = .ok (.iinc 5 1, 3) := by decide +kernel
theorem dX13_runsOf_93 : decode cX13_runsOf 93 = .ok (.goto (-50), 3) := by decide +kernel
theorem dX13_runsOf_96 : decode cX13_runsOf 96 = .ok (.aload_n 1, 1) := by decide +kernel
theorem dX13_runsOf_97 : decode cX13_runsOf 97 = .ok (.iload 4, 2) := by decide +kernel
theorem dX13_runsOf_99 : decode cX13_runsOf 99 = .ok (.iload 5, 2) := by decide +kernel
theorem dX13_runsOf_101 : decode cX13_runsOf 101 = .ok (.invokestatic 101, 3) := by decide +kernel
theorem dX13_runsOf_104 : decode cX13_runsOf 104 = .ok (.astore 6, 2) := by decide +kernel
theorem dX13_runsOf_106 : decode cX13_runsOf 106 = .ok (.aload_n 0, 1) := by decide +kernel
theorem dX13_runsOf_107 : decode cX13_runsOf 107 = .ok (.aload 6, 2) := by decide +kernel
theorem dX13_runsOf_109 : decode cX13_runsOf 109 = .ok (.aload_n 2, 1) := by decide +kernel
theorem dX13_runsOf_110 : decode cX13_runsOf 110 = .ok (.iconst 0, 1) := by decide +kernel
theorem dX13_runsOf_111 : decode cX13_runsOf 111 = .ok (.iaload, 1) := by decide +kernel
theorem dX13_runsOf_112 : decode cX13_runsOf 112 = .ok (.invokevirtual 105, 3) := by decide +kernel
theorem dX13_runsOf_115 : decode cX13_runsOf 115 = .ok (.aload_n 3, 1) := by decide +kernel
theorem dX13_runsOf_116 : decode cX13_runsOf 116 = .ok (.aload 6, 2) := by decide +kernel
theorem dX13_runsOf_118 : decode cX13_runsOf 118 = .ok (.invokeinterface 109 2, 5) := by decide +kernel
theorem dX13_runsOf_123 : decode cX13_runsOf 123 = .ok (.pop, 1) := by decide +kernel
theorem dX13_runsOf_124 : decode cX13_runsOf 124 = .ok (.iload 5, 2) := by decide +kernel
theorem dX13_runsOf_126 : decode cX13_runsOf 126 = .ok (.istore 4, 2) := by decide +kernel
theorem dX13_runsOf_128 : decode cX13_runsOf 128 = .ok (.goto (-98), 3) := by decide +kernel
theorem dX13_runsOf_131 : decode cX13_runsOf 131 = .ok (.aload_n 3, 1) := by decide +kernel
theorem dX13_runsOf_132 : decode cX13_runsOf 132 = .ok (.areturn, 1) := by decide +kernel
set_option maxRecDepth 20000 in
theorem ggX13_firstOf_Jx4a65c_size_8abf5 : GoodIn wsX13_firstOf wsJx4a65c_size_8abf5 := goodIn_r _ [6, 7, 37, 38, 39] (by decide +kernel) (by decide +kernel)
set_option maxRecDepth 20000 in
theorem gX13_firstOf_Jx4a65c_size_8abf5_f79Jx4a65c : GoodIn wsX13_firstOf (va_wsF RX13 79 RJx4a65c ⟨"java/util/List", "size", "()I"⟩ yJx4a65c_size_8abf5 wsJx4a65c_size_8abf5) := goodIn_app (goodIn_of _ (by decide +kernel)) ggX13_firstOf_Jx4a65c_size_8abf5
set_option maxRecDepth 20000 in
theorem ggX13_firstOf_Jx4a65c_get_915e3 : GoodIn wsX13_firstOf wsJx4a65c_get_915e3 := goodIn_r _ [11, 7, 12, 13, 14, 15, 16, 17, 18, 19, 20, 21, 22, 5, 23, 24, 37, 38, 39] (by decide +kernel) (by decide +kernel)
set_option maxRecDepth 20000 in
theorem gX13_firstOf_Jx4a65c_get_915e3_f85Jx4a65c : GoodIn wsX13_firstOf (va_wsF RX13 85 RJx4a65c ⟨"java/util/List", "get", "(I)Ljava/lang/Object;"⟩ yJx4a65c_get_915e3 wsJx4a65c_get_915e3) := goodIn_app (goodIn_of _ (by decide +kernel)) ggX13_firstOf_Jx4a65c_get_915e3
set_option maxRecDepth 20000 in
theorem ggX13_firstOf_J6_intValue_8abf5 : GoodIn wsX13_firstOf wsJ6_intValue_8abf5 := goodIn_r _ [29, 30, 40] (by decide +kernel) (by decide +kernel)
set_option maxRecDepth 20000 in
theorem gX13_firstOf_J6_intValue_8abf5 : GoodIn wsX13_firstOf (wsV RX13 91 RJ6 yJ6_intValue_8abf5 wsJ6_intValue_8abf5) := goodIn_app (goodIn_of _ (by decide +kernel)) ggX13_firstOf_J6_intValue_8abf5
set_option maxRecDepth 20000 in
theorem ggX13_firstOf_X13_isBefore : GoodIn wsX13_firstOf wsX13_isBefore := goodIn_r _ [35, 36, 41, 42, 43, 44, 45, 46, 47, 48, 49, 50, 51, 52, 53, 54] (by decide +kernel) (by decide +kernel)
set_option maxRecDepth 20000 in
theorem gX13_firstOf_X13_isBefore : GoodIn wsX13_firstOf (wsV RX13 15 RX13 yX13_isBefore wsX13_isBefore) := goodIn_app (goodIn_of _ (by decide +kernel)) ggX13_firstOf_X13_isBefore
theorem dX13_firstOf_0 : decode cX13_firstOf 0 = .ok (.iconst 0, 1) := by decide +kernel
theorem dX13_firstOf_1 : decode cX13_firstOf 1 = .ok (.istore_n 3, 1) := by decide +kernel
theorem dX13_firstOf_2 : decode cX13_firstOf 2 = .ok (.iconst 1, 1) := by decide +kernel
theorem dX13_firstOf_3 : decode cX13_firstOf 3 = .ok (.istore 4, 2) := by decide +kernel
theorem dX13_firstOf_5 : decode cX13_firstOf 5 = .ok (.iload 4, 2) := by decide +kernel
theorem dX13_firstOf_7 : decode cX13_firstOf 7 = .ok (.aload_n 1, 1) := by decide +kernel
theorem dX13_firstOf_8 : decode cX13_firstOf 8 = .ok (.invokeinterface 79 1, 5) := by decide +kernel
theorem dX13_firstOf_13 : decode cX13_firstOf 13 = .ok (.if_icmp .ge 51, 3) := by decide +kernel
theorem dX13_firstOf_16 : decode cX13_firstOf 16 = .ok (.aload_n 0, 1) := by decide +kernel
theorem dX13_firstOf_17 : decode cX13_firstOf 17 = .ok (.aload_n 1, 1) := by decide +kernel
theorem dX13_firstOf_18 : decode cX13_firstOf 18 = .ok (.iload 4, 2) := by decide +kernel
theorem dX13_firstOf_20 : decode cX13_firstOf 20 = .ok (.invokeinterface 85 2, 5) := by decide +kernel
theorem dX13_firstOf_25 : decode cX13_firstOf 25 = .ok (.checkcast 89, 3) := by decide +kernel
theorem dX13_firstOf_28 : decode cX13_firstOf 28 = .ok (.invokevirtual 91, 3) := by decide +kernel
theorem dX13_firstOf_31 : decode cX13_firstOf 31 = .ok (.aload_n 1, 1) := by decide +kernel
theorem dX13_firstOf_32 : decode cX13_firstOf 32 = .ok (.iload_n 3, 1) := by decide +kernel
theorem dX13_firstOf_33 : decode cX13_firstOf 33 = .ok (.invokeinterface 85 2, 5) := by decide +kernel
theorem dX13_firstOf_38 : decode cX13_firstOf 38 = .ok (.checkcast 89, 3) := by decide +kernel
theorem dX13_firstOf_41 : decode cX13_firstOf 41 = .ok (.invokevirtual 91, 3) := by decide +kernel
theorem dX13_firstOf_44 : decode cX13_firstOf 44 = .ok (.iload_n 2, 1) := by decide +kernel
theorem dX13_firstOf_45 : decode cX13_firstOf 45 = .ok (.invokevirtual 15, 3) := by decide +kernel
theorem dX13_firstOf_48 : decode cX13_firstOf 48 = .ok (.ifCond .eq 8, 3) := by decide +kernel
theorem dX13_firstOf_51 : decode cX13_firstOf 51 = .ok (.iload 4, 2) := by decide +kernel
theorem dX13_firstOf_53 : decode cX13_firstOf 53 = .ok (.goto 4, 3) := by decide +kernel
theorem dX13_firstOf_56 : decode cX13_firstOf 56 = .ok (.iload_n 3, 1) := by decide +kernel
theorem dX13_firstOf_57 : decode cX13_firstOf 57 = .ok (.istore_n 3, 1) := by decide +kernel
theorem dX13_firstOf_58 : decode cX13_firstOf 58 = .ok (.iinc 4 1, 3) := by decide +kernel
theorem dX13_firstOf_61 : decode cX13_firstOf 61 = .ok (.goto (-56), 3) := by decide +kernel
theorem dX13_firstOf_64 : decode cX13_firstOf 64 = .ok (.iload_n 3, 1) := by decide +kernel
theorem dX13_firstOf_65 : decode cX13_firstOf 65 = .ok (.ireturn, 1) := by decide +kernel
set_option maxRecDepth 20000 in
theorem ggX13_replaced_Jx4a65c_init_da8c8 : GoodIn wsX13_replaced wsJx4a65c_init_da8c8 := goodIn_r _ [11, 12, 13, 14, 15, 16, 17, 18, 19, 20, 21, 22, 23, 24, 25, 144, 145, 146] (by decide +kernel) (by decide +kernel)
set_option maxRecDepth 20000 in
theorem gX13_replaced_Jx4a65c_init_da8c8 : GoodIn wsX13_replaced (wsJx4a65c_init_da8c8) := ggX13_replaced_Jx4a65c_init_da8c8
set_option maxRecDepth 20000 in
theorem ggX13_replaced_J6_valueOf_2dffe : GoodIn wsX13_replaced wsJ6_valueOf_2dffe := goodIn_r _ [29, 30, 31, 32, 33, 28, 34, 35, 36, 37, 38, 39, 40, 41, 42, 24, 25, 147] (by decide +kernel) (by decide +kernel)
set_option maxRecDepth 20000 in
theorem gX13_replaced_J6_valueOf_2dffe : GoodIn wsX13_replaced (va_wsS RX13 119 yJ6_valueOf_2dffe wsJ6_valueOf_2dffe) := goodIn_app (goodIn_of _ (by decide +kernel)) ggX13_replaced_J6_valueOf_2dffe
set_option maxRecDepth 20000 in
theorem ggX13_replaced_Jx4a65c_add_9ea2d : GoodIn wsX13_replaced wsJx4a65c_add_9ea2d := goodIn_r _ [46, 47, 48, 13, 49, 50, 51, 52, 3, 53, 54, 55, 56, 57, 58, 59, 60, 61, 12, 62, 63, 6, 64, 65, 66, 67, 68, 69, 70, 71, 72, 73, 74, 75, 76, 77, 78, 79, 80, 81, 82, 83, 84, 85, 86, 87, 88, 5, 7, 89, 90, 91, 92, 144, 145, 146] (by decide +kernel) (by decide +kernel)
set_option maxRecDepth 20000 in
theorem gX13_replaced_Jx4a65c_add_9ea2d_f109Jx4a65c : GoodIn wsX13_replaced (va_wsF RX13 109 RJx4a65c ⟨"java/util/List", "add", "(Ljava/lang/Object;)Z"⟩ yJx4a65c_add_9ea2d wsJx4a65c_add_9ea2d) := goodIn_app (goodIn_of _ (by decide +kernel)) ggX13_replaced_Jx4a65c_add_9ea2d
set_option maxRecDepth 20000 in
theorem ggX13_replaced_Jx4a65c_isEmpty_aae02 : GoodIn wsX13_replaced wsJx4a65c_isEmpty_aae02 := goodIn_r _ [96, 49, 144, 145, 146] (by decide +kernel) (by decide +kernel)
set_option maxRecDepth 20000 in
theorem gX13_replaced_Jx4a65c_isEmpty_aae02_f123Jx4a65c : GoodIn wsX13_replaced (va_wsF RX13 123 RJx4a65c ⟨"java/util/List", "isEmpty", "()Z"⟩ yJx4a65c_isEmpty_aae02 wsJx4a65c_isEmpty_aae02) := goodIn_app (goodIn_of _ (by decide +kernel)) ggX13_replaced_Jx4a65c_isEmpty_aae02
set_option maxRecDepth 20000 in
theorem ggX13_replaced_X13_firstOf : GoodIn wsX13_replaced wsX13_firstOf := goodIn_r _ [101, 8, 102, 103, 104, 3, 105, 49, 106, 107, 108, 109, 110, 111, 112, 113, 114, 115, 116, 117, 118, 119, 120, 121, 13, 122, 123, 124, 28, 125, 37, 126, 127, 128, 100, 129, 130, 144, 145, 146, 147, 148, 149, 150, 151, 152, 153, 154, 155, 156, 157, 158, 159, 160, 161] (by decide +kernel) (by decide +kernel)
set_option maxRecDepth 20000 in
theorem gX13_replaced_X13_firstOf : GoodIn wsX13_replaced (wsV RX13 127 RX13 yX13_firstOf wsX13_firstOf) := goodIn_app (goodIn_of _ (by decide +kernel)) ggX13_replaced_X13_firstOf
set_option maxRecDepth 20000 in
theorem ggX13_replaced_Jx4a65c_remove_915e3 : GoodIn wsX13_replaced wsJx4a65c_remove_915e3 := goodIn_r _ [134, 49, 13, 110, 111, 112, 113, 114, 115, 116, 117, 135, 136, 137, 3, 138, 47, 48, 139, 90, 91, 92, 144, 145, 146] (by decide +kernel) (by decide +kernel)
set_option maxRecDepth 20000 in
theorem gX13_replaced_Jx4a65c_remove_915e3_f131Jx4a65c : GoodIn wsX13_replaced (va_wsF RX13 131 RJx4a65c ⟨"java/util/List", "remove", "(I)Ljava/lang/Object;"⟩ yJx4a65c_remove_915e3 wsJx4a65c_remove_915e3) := goodIn_app (goodIn_of _ (by decide +kernel)) ggX13_replaced_Jx4a65c_remove_915e3
set_option maxRecDepth 20000 in
theorem ggX13_replaced_J6_intValue_8abf5 : GoodIn wsX13_replaced wsJ6_intValue_8abf5 := goodIn_r _ [125, 37, 147] (by decide +kernel) (by decide +kernel)
set_option maxRecDepth 20000 in
theorem gX13_replaced_J6_intValue_8abf5 : GoodIn wsX13_replaced (wsV RX13 91 RJ6 yJ6_intValue_8abf5 wsJ6_intValue_8abf5) := goodIn_app (goodIn_of _ (by decide +kernel)) ggX13_replaced_J6_intValue_8abf5
set_option maxRecDepth 20000 in
theorem ggX13_replaced_X13_isBefore : GoodIn wsX13_replaced wsX13_isBefore := goodIn_r _ [129, 130, 148, 149, 150, 151, 152, 153, 154, 155, 156, 157, 158, 159, 160, 161] (by decide +kernel) (by decide +kernel)
set_option maxRecDepth 20000 in
theorem gX13_replaced_X13_isBefore : GoodIn wsX13_replaced (wsV RX13 15 RX13 yX13_isBefore wsX13_isBefore) := goodIn_app (goodIn_of _ (by decide +kernel)) ggX13_replaced_X13_isBefore
set_option maxRecDepth 20000 in
theorem ggX13_replaced_X13_rowOf : GoodIn wsX13_replaced wsX13_rowOf := goodIn_r _ [142, 143, 8, 102, 103, 104, 3, 105, 49, 106, 107, 108, 109, 110, 111, 112, 113, 114, 115, 116, 117, 118, 119, 120, 121, 13, 122, 123, 124, 28, 125, 37, 144, 145, 146, 147] (by decide +kernel) (by decide +kernel)
set_option maxRecDepth 20000 in
theorem gX13_replaced_X13_rowOf : GoodIn wsX13_replaced (va_wsS RX13 134 yX13_rowOf wsX13_rowOf) := goodIn_app (goodIn_of _ (by decide +kernel)) ggX13_replaced_X13_rowOf
theorem dX13_replaced_0 : decode cX13_replaced 0 = .ok (.new 98, 3) := by decide +kernel
theorem dX13_replaced_3 : decode cX13_replaced 3 = .ok (.dup, 1) := by decide +kernel
theorem dX13_replaced_4 : decode cX13_replaced 4 = .ok (.invokespecial 100, 3) := by decide +kernel
theorem dX13_replaced_7 : decode cX13_replaced 7 = .ok (.astore 4, 2) := by decide +kernel
theorem dX13_replaced_9 : decode cX13_replaced 9 = .ok (.new 98, 3) := by decide +kernel
theorem dX13_replaced_12 : decode cX13_replaced 12 = .ok (.dup, 1) := by decide +kernel
theorem dX13_replaced_13 : decode cX13_replaced 13 = .ok (.invokespecial 100, 3) := by decide +kernel
theorem dX13_replaced_16 : decode cX13_replaced 16 = .ok (.astore 5, 2) := by decide +kernel
theorem dX13_replaced_18 : decode cX13_replaced 18 = .ok (.new 98, 3) := by decide +kernel
theorem dX13_replaced_21 : decode cX13_replaced 21 = .ok (.dup, 1) := by decide +kernel
theorem dX13_replaced_22 : decode cX13_replaced 22 = .ok (.invokespecial 100, 3) := by decide +kernel
theorem dX13_replaced_25 : decode cX13_replaced 25 = .ok (.astore 6, 2) := by decide +kernel
theorem dX13_replaced_27 : decode cX13_replaced 27 = .ok (.new 98, 3) := by decide +kernel
theorem dX13_replaced_30 : decode cX13_replaced 30 = .ok (.dup, 1) := by decide +kernel
theorem dX13_replaced_31 : decode cX13_replaced 31 = .ok (.invokespecial 100, 3) := by decide +kernel
theorem dX13_replaced_34 : decode cX13_replaced 34 = .ok (.astore 7, 2) := by decide +kernel
theorem dX13_replaced_36 : decode cX13_replaced 36 = .ok (.iconst 0, 1) := by decide +kernel
theorem dX13_replaced_37 : decode cX13_replaced 37 = .ok (.istore 8, 2) := by decide +kernel
theorem dX13_replaced_39 : decode cX13_replaced 39 = .ok (.iload 8, 2) := by decide +kernel
theorem dX13_replaced_41 : decode cX13_replaced 41 = .ok (.iload_n 3, 1) := by decide +kernel
theorem dX13_replaced_42 : decode cX13_replaced 42 = .ok (.aload_n 1, 1) := by decide +kernel
theorem dX13_replaced_43 : decode cX13_replaced 43 = .ok (.arraylength, 1) := by decide +kernel
theorem dX13_replaced_44 : decode cX13_replaced 44 = .ok (.invokestatic 113, 3) := by decide +kernel
theorem dX13_replaced_47 : decode cX13_replaced 47 = .ok (.if_icmp .ge 25, 3) := by decide +kernel
theorem dX13_replaced_50 : decode cX13_replaced 50 = .ok (.aload 5, 2) := by decide +kernel
theorem dX13_replaced_52 : decode cX13_replaced 52 = .ok (.aload_n 1, 1) := by decide +kernel
theorem dX13_replaced_53 : decode cX13_replaced 53 = .ok (.iload 8, 2) := by decide +kernel
theorem dX13_replaced_55 : decode cX13_replaced 55 = .ok (.iaload, 1) := by decide +kernel
theorem dX13_replaced_56 : decode cX13_replaced 56 = .ok (.invokestatic 119, 3) := by decide +kernel
theorem dX13_replaced_59 : decode cX13_replaced 59 = .ok (.invokeinterface 109 2, 5) := by decide +kernel
theorem dX13_replaced_64 : decode cX13_replaced 64 = .ok (.istore 9, 2) := by decide +kernel
theorem dX13_replaced_66 : decode cX13_replaced 66 = .ok (.iinc 8 1, 3) := by decide +kernel
theorem dX13_replaced_69 : decode cX13_replaced 69 = .ok (.goto (-30), 3) := by decide +kernel
theorem dX13_replaced_72 : decode cX13_replaced 72 = .ok (.aload 5, 2) := by decide +kernel
theorem dX13_replaced_74 : decode cX13_replaced 74 = .ok (.invokeinterface 123 1, 5) := by decide +kernel
theorem dX13_replaced_79 : decode cX13_replaced 79 = .ok (.ifCond .ne 144, 3) := by decide +kernel
theorem dX13_replaced_82 : decode cX13_replaced 82 = .ok (.aload 5, 2) := by decide +kernel
theorem dX13_replaced_84 : decode cX13_replaced 84 = .ok (.aload_n 0, 1) := by decide +kernel
theorem dX13_replaced_85 : decode cX13_replaced 85 = .ok (.aload 5, 2) := by decide +kernel
theorem dX13_replaced_87 : decode cX13_replaced 87 = .ok (.iload_n 2, 1) := by decide +kernel
theorem dX13_replaced_88 : decode cX13_replaced 88 = .ok (.invokevirtual 127, 3) := by decide +kernel
theorem dX13_replaced_91 : decode cX13_replaced 91 = .ok (.invokeinterface 131 2, 5) := by decide +kernel
theorem dX13_replaced_96 : decode cX13_replaced 96 = .ok (.checkcast 89, 3) := by decide +kernel
theorem dX13_replaced_99 : decode cX13_replaced 99 = .ok (.invokevirtual 91, 3) := by decide +kernel
theorem dX13_replaced_102 : decode cX13_replaced 102 = .ok (.istore 9, 2) := by decide +kernel
theorem dX13_replaced_104 : decode cX13_replaced 104 = .ok (.aload 7, 2) := by decide +kernel
theorem dX13_replaced_106 : decode cX13_replaced 106 = .ok (.iload 9, 2) := by decide +kernel
theorem dX13_replaced_108 : decode cX13_replaced 108 = .ok (.invokestatic 119, 3) := by decide +kernel
theorem dX13_replaced_111 : decode cX13_replaced 111 = .ok (.invokeinterface 109 2, 5) := by decide +kernel
theorem dX13_replaced_116 : decode cX13_replaced 116 = .ok (.istore 10, 2) := by decide +kernel
theorem dX13_replaced_118 : decode cX13_replaced 118 = .ok (.iload 8, 2) := by decide +kernel
theorem dX13_replaced_120 : decode cX13_replaced 120 = .ok (.aload_n 1, 1) := by decide +kernel
theorem dX13_replaced_121 : decode cX13_replaced 121 = .ok (.arraylength, 1) := by decide +kernel
theorem dX13_replaced_122 : decode cX13_replaced 122 = .ok (.if_icmp .ge 53, 3) := by decide +kernel
theorem dX13_replaced_125 : decode cX13_replaced 125 = .ok (.aload_n 0, 1) := by decide +kernel
theorem dX13_replaced_126 : decode cX13_replaced 126 = .ok (.aload_n 1, 1) := by decide +kernel
theorem dX13_replaced_127 : decode cX13_replaced 127 = .ok (.iload 8, 2) := by decide +kernel
theorem dX13_replaced_129 : decode cX13_replaced 129 = .ok (.iaload, 1) := by decide +kernel
theorem dX13_replaced_130 : decode cX13_replaced 130 = .ok (.iload 9, 2) := by decide +kernel
theorem dX13_replaced_132 : decode cX13_replaced 132 = .ok (.iload_n 2, 1) := by decide +kernel
theorem dX13_replaced_133 : decode cX13_replaced 133 = .ok (.invokevirtual 15, 3) := by decide +kernel
theorem dX13_replaced_136 : decode cX13_replaced 136 = .ok (.ifCond .eq 20, 3) := by decide +kernel
theorem dX13_replaced_139 : decode cX13_replaced 139 = .ok (.aload 6, 2) := by decide +kernel
theorem dX13_replaced_141 : decode cX13_replaced 141 = .ok (.aload_n 1, 1) := by decide +kernel
theorem dX13_replaced_142 : decode cX13_replaced 142 = .ok (.iload 8, 2) := by decide +kernel
theorem dX13_replaced_144 : decode cX13_replaced 144 = .ok (.iaload, 1) := by decide +kernel
theorem dX13_replaced_145 : decode cX13_replaced 145 = .ok (.invokestatic 119, 3) := by decide +kernel
theorem dX13_replaced_148 : decode cX13_replaced 148 = .ok (.invokeinterface 109 2, 5) := by decide +kernel
theorem dX13_replaced_153 : decode cX13_replaced 153 = .ok (.goto 17, 3) := by decide +kernel
theorem dX13_replaced_156 : decode cX13_replaced 156 = .ok (.aload 5, 2) := by decide +kernel
theorem dX13_replaced_158 : decode cX13_replaced 158 = .ok (.aload_n 1, 1) := by decide +kernel
theorem dX13_replaced_159 : decode cX13_replaced 159 = .ok (.iload 8, 2) := by decide +kernel
theorem dX13_replaced_161 : decode cX13_replaced 161 = .ok (.iaload, 1) := by decide +kernel
theorem dX13_replaced_162 : decode cX13_replaced 162 = .ok (.invokestatic 119, 3) := by decide +kernel
theorem dX13_replaced_165 : decode cX13_replaced 165 = .ok (.invokeinterface 109 2, 5) := by decide +kernel
theorem dX13_replaced_170 : decode cX13_replaced 170 = .ok (.istore 10, 2) := by decide +kernel
theorem dX13_replaced_172 : decode cX13_replaced 172 = .ok (.iinc 8 1, 3) := by decide +kernel
theorem dX13_replaced_175 : decode cX13_replaced 175 = .ok (.aload 5, 2) := by decide +kernel
theorem dX13_replaced_177 : decode cX13_replaced 177 = .ok (.invokeinterface 123 1, 5) := by decide +kernel
theorem dX13_replaced_182 : decode cX13_replaced 182 = .ok (.ifCond .eq 38, 3) := by decide +kernel
theorem dX13_replaced_185 : decode cX13_replaced 185 = .ok (.aload 4, 2) := by decide +kernel
theorem dX13_replaced_187 : decode cX13_replaced 187 = .ok (.aload 7, 2) := by decide +kernel
theorem dX13_replaced_189 : decode cX13_replaced 189 = .ok (.invokestatic 134, 3) := by decide +kernel
theorem dX13_replaced_192 : decode cX13_replaced 192 = .ok (.invokeinterface 109 2, 5) := by decide +kernel
theorem dX13_replaced_197 : decode cX13_replaced 197 = .ok (.pop, 1) := by decide +kernel
theorem dX13_replaced_198 : decode cX13_replaced 198 = .ok (.new 98, 3) := by decide +kernel
theorem dX13_replaced_201 : decode cX13_replaced 201 = .ok (.dup, 1) := by decide +kernel
theorem dX13_replaced_202 : decode cX13_replaced 202 = .ok (.invokespecial 100, 3) := by decide +kernel
theorem dX13_replaced_205 : decode cX13_replaced 205 = .ok (.astore 7, 2) := by decide +kernel
theorem dX13_replaced_207 : decode cX13_replaced 207 = .ok (.aload 6, 2) := by decide +kernel
theorem dX13_replaced_209 : decode cX13_replaced 209 = .ok (.astore 5, 2) := by decide +kernel
theorem dX13_replaced_211 : decode cX13_replaced 211 = .ok (.new 98, 3) := by decide +kernel
theorem dX13_replaced_214 : decode cX13_replaced 214 = .ok (.dup, 1) := by decide +kernel
theorem dX13_replaced_215 : decode cX13_replaced 215 = .ok (.invokespecial 100, 3) := by decide +kernel
theorem dX13_replaced_218 : decode cX13_replaced 218 = .ok (.astore 6, 2) := by decide +kernel
theorem dX13_replaced_220 : decode cX13_replaced 220 = .ok (.goto (-148), 3) := by decide +kernel
theorem dX13_replaced_223 : decode cX13_replaced 223 = .ok (.aload 4, 2) := by decide +kernel
theorem dX13_replaced_225 : decode cX13_replaced 225 = .ok (.areturn, 1) := by decide +kernel
set_option maxRecDepth 20000 in
theorem ggX13_runsNow_X13_runsOf : GoodIn wsX13_runsNow wsX13_runsOf := goodIn_r _ [7, 8, 9, 10, 11, 12, 13, 6, 14, 15, 16, 17, 18, 19, 20, 21, 22, 23, 24, 25, 26, 27, 28, 29, 30, 31, 32, 33, 34, 35, 36, 37, 38, 39, 40, 41, 42, 43, 44, 45, 46, 47, 48, 49, 50, 51, 52, 53, 54, 55, 56, 57, 58, 59, 60, 61, 62, 63, 64, 65, 66, 67, 68, 69, 70, 71, 72, 73, 74, 75, 76, 77, 78, 79, 80, 81, 82, 83, 84, 85, 86, 87, 88, 89, 90, 91, 92, 93, 94, 95, 96, 97, 98, 99, 100, 101, 102, 103, 104, 105, 106, 107, 108, 109, 110, 111, 112, 113, 114, 115, 116, 117, 118, 119, 120, 121, 122, 123, 124, 125, 126, 127, 128, 129, 130, 131, 132, 133, 134, 135, 136, 137, 138, 139, 140, 141, 142, 143, 144, 145, 146, 147, 148, 149, 150, 151, 152, 153, 154, 155, 156, 157, 158, 159, 160, 175, 176, 177, 178, 161, 162, 163, 164, 165, 166, 167, 168, 169, 170, 171, 172, 173, 174] (by decide +kernel) (by decide +kernel)
set_option maxRecDepth 20000 in
theorem gX13_runsNow_X13_runsOf : GoodIn wsX13_runsNow (wsV RX13 138 RX13 yX13_runsOf wsX13_runsOf) := goodIn_app (goodIn_of _ (by decide +kernel)) ggX13_runsNow_X13_runsOf
theorem dX13_runsNow_0 : decode cX13_runsNow 0 = .ok (.aload_n 0, 1) := by decide +kernel
theorem dX13_runsNow_1 : decode cX13_runsNow 1 = .ok (.aload_n 0, 1) := by decide +kernel
theorem dX13_runsNow_2 : decode cX13_runsNow 2 = .ok (.getfield 29, 3) := by decide +kernel
theorem dX13_runsNow_5 : decode cX13_runsNow 5 = .ok (.iload_n 1, 1) := by decide +kernel
theorem dX13_runsNow_6 : decode cX13_runsNow 6 = .ok (.aaload, 1) := by decide +kernel
theorem dX13_runsNow_7 : decode cX13_runsNow 7 = .ok (.aload_n 0, 1) := by decide +kernel
theorem dX13_runsNow_8 : decode cX13_runsNow 8 = .ok (.getfield 35, 3) := by decide +kernel
theorem dX13_runsNow_11 : decode cX13_runsNow 11 = .ok (.invokevirtual 138, 3) := by decide +kernel
theorem dX13_runsNow_14 : decode cX13_runsNow 14 = .ok (.areturn, 1) := by decide +kernel
set_option maxRecDepth 20000 in
theorem ggX13_runs_X13_isTape : GoodIn wsX13_runs wsX13_isTape := goodIn_r _ [4, 5, 6, 3, 7] (by decide +kernel) (by decide +kernel)
set_option maxRecDepth 20000 in
theorem gX13_runs_X13_isTape : GoodIn wsX13_runs (va_wsS RX13 44 yX13_isTape wsX13_isTape) := goodIn_app (goodIn_of _ (by decide +kernel)) ggX13_runs_X13_isTape
set_option maxRecDepth 20000 in
theorem ggX13_runs_X13_passes : GoodIn wsX13_runs wsX13_passes := goodIn_r _ [11, 12, 176, 177, 178, 179, 180, 181, 182, 183, 184, 185, 186, 187, 188, 189] (by decide +kernel) (by decide +kernel)
set_option maxRecDepth 20000 in
theorem gX13_runs_X13_passes : GoodIn wsX13_runs (wsV RX13 55 RX13 yX13_passes wsX13_passes) := goodIn_app (goodIn_of _ (by decide +kernel)) ggX13_runs_X13_passes
set_option maxRecDepth 20000 in
theorem ggX13_runs_X13_runsNow : GoodIn wsX13_runs wsX13_runsNow := goodIn_r _ [16, 17, 18, 19, 20, 21, 3, 22, 23, 24, 25, 26, 27, 28, 29, 30, 31, 32, 33, 34, 35, 36, 37, 38, 39, 40, 41, 42, 43, 44, 45, 46, 47, 48, 49, 50, 51, 52, 53, 54, 55, 56, 57, 58, 59, 60, 61, 62, 63, 64, 65, 66, 67, 68, 69, 70, 71, 72, 73, 74, 75, 76, 77, 78, 79, 80, 81, 82, 83, 84, 85, 86, 87, 88, 89, 90, 91, 92, 93, 94, 95, 96, 97, 98, 99, 100, 101, 102, 103, 104, 105, 106, 107, 108, 109, 110, 111, 112, 113, 114, 115, 116, 117, 118, 119, 120, 121, 122, 123, 124, 125, 126, 127, 128, 129, 130, 131, 132, 133, 134, 135, 136, 137, 138, 139, 140, 141, 142, 143, 144, 145, 146, 147, 148, 149, 150, 151, 152, 153, 154, 155, 156, 157, 158, 159, 160, 161, 162, 163, 164, 165, 166, 167, 168, 169, 170, 171, 172, 173, 174, 175, 176, 177, 178, 179, 180, 181, 182, 183, 184, 185, 186, 187, 188, 189, 190, 191, 192, 193] (by decide +kernel) (by decide +kernel)
set_option maxRecDepth 20000 in
theorem gX13_runs_X13_runsNow : GoodIn wsX13_runs (wsV RX13 142 RX13 yX13_runsNow wsX13_runsNow) := goodIn_app (goodIn_of _ (by decide +kernel)) ggX13_runs_X13_runsNow
set_option maxRecDepth 20000 in
theorem ggX13_runs_Jx4a65c_size_8abf5 : GoodIn wsX13_runs wsJx4a65c_size_8abf5 := goodIn_r _ [130, 75, 190, 191, 192] (by decide +kernel) (by decide +kernel)
set_option maxRecDepth 20000 in
theorem gX13_runs_Jx4a65c_size_8abf5_f79Jx4a65c : GoodIn wsX13_runs (va_wsF RX13 79 RJx4a65c ⟨"java/util/List", "size", "()I"⟩ yJx4a65c_size_8abf5 wsJx4a65c_size_8abf5) := goodIn_app (goodIn_of _ (by decide +kernel)) ggX13_runs_Jx4a65c_size_8abf5
theorem dX13_runs_0 : decode cX13_runs 0 = .ok (.aload_n 0, 1) := by decide +kernel
theorem dX13_runs_1 : decode cX13_runs 1 = .ok (.iload_n 1, 1) := by decide +kernel
theorem dX13_runs_2 : decode cX13_runs 2 = .ok (.invokestatic 44, 3) := by decide +kernel
theorem dX13_runs_5 : decode cX13_runs 5 = .ok (.iconst 1, 1) := by decide +kernel
theorem dX13_runs_6 : decode cX13_runs 6 = .ok (.iconst 1, 1) := by decide +kernel
theorem dX13_runs_7 : decode cX13_runs 7 = .ok (.invokevirtual 55, 3) := by decide +kernel
theorem dX13_runs_10 : decode cX13_runs 10 = .ok (.ifCond .eq 16, 3) := by decide +kernel
theorem dX13_runs_13 : decode cX13_runs 13 = .ok (.aload_n 0, 1) := by decide +kernel
theorem dX13_runs_14 : decode cX13_runs 14 = .ok (.iload_n 1, 1) := by decide +kernel
theorem dX13_runs_15 : decode cX13_runs 15 = .ok (.invokevirtual 142, 3) := by decide +kernel
theorem dX13_runs_18 : decode cX13_runs 18 = .ok (.invokeinterface 79 1, 5) := by decide +kernel
theorem dX13_runs_23 : decode cX13_runs 23 = .ok (.goto 4, 3) := by decide +kernel
theorem dX13_runs_26 : decode cX13_runs 26 = .ok (.iconst 0, 1) := by decide +kernel
theorem dX13_runs_27 : decode cX13_runs 27 = .ok (.ireturn, 1) := by decide +kernel
set_option maxRecDepth 20000 in
theorem ggX13_runLength_X13_isTape : GoodIn wsX13_runLength wsX13_isTape := goodIn_r _ [5, 6, 7, 4, 8] (by decide +kernel) (by decide +kernel)
set_option maxRecDepth 20000 in
theorem gX13_runLength_X13_isTape : GoodIn wsX13_runLength (va_wsS RX13 44 yX13_isTape wsX13_isTape) := goodIn_app (goodIn_of _ (by decide +kernel)) ggX13_runLength_X13_isTape
set_option maxRecDepth 20000 in
theorem ggX13_runLength_X13_runsNow : GoodIn wsX13_runLength wsX13_runsNow := goodIn_r _ [12, 13, 14, 15, 16, 17, 4, 18, 19, 20, 21, 22, 23, 24, 25, 26, 27, 28, 29, 30, 31, 32, 33, 34, 35, 36, 37, 38, 39, 40, 41, 42, 43, 44, 45, 46, 47, 48, 49, 50, 51, 52, 53, 54, 55, 56, 57, 58, 59, 60, 61, 62, 63, 64, 65, 66, 67, 68, 69, 70, 71, 72, 73, 74, 75, 76, 77, 78, 79, 80, 81, 82, 83, 84, 85, 86, 87, 88, 89, 90, 91, 92, 93, 94, 95, 96, 97, 98, 99, 100, 101, 102, 103, 104, 105, 106, 107, 108, 109, 110, 111, 112, 113, 114, 115, 116, 117, 118, 119, 120, 121, 122, 123, 124, 125, 126, 127, 128, 129, 130, 131, 132, 133, 134, 135, 136, 137, 138, 139, 140, 141, 142, 143, 144, 145, 146, 147, 148, 149, 150, 151, 152, 153, 154, 155, 156, 157, 158, 159, 160, 161, 162, 163, 164, 165, 166, 167, 168, 169, 170, 171, 177, 178, 179, 180, 181, 182, 183, 184, 185, 186, 187, 188, 189, 190, 191, 192, 193, 194] (by decide +kernel) (by decide +kernel)
set_option maxRecDepth 20000 in
theorem gX13_runLength_X13_runsNow : GoodIn wsX13_runLength (wsV RX13 142 RX13 yX13_runsNow wsX13_runsNow) := goodIn_app (goodIn_of _ (by decide +kernel)) ggX13_runLength_X13_runsNow
set_option maxRecDepth 20000 in
theorem ggX13_runLength_Jx4a65c_size_8abf5 : GoodIn wsX13_runLength wsJx4a65c_size_8abf5 := goodIn_r _ [126, 71, 191, 192, 193] (by decide +kernel) (by decide +kernel)
set_option maxRecDepth 20000 in
theorem gX13_runLength_Jx4a65c_size_8abf5_f79Jx4a65c : GoodIn wsX13_runLength (va_wsF RX13 79 RJx4a65c ⟨"java/util/List", "size", "()I"⟩ yJx4a65c_size_8abf5 wsJx4a65c_size_8abf5) := goodIn_app (goodIn_of _ (by decide +kernel)) ggX13_runLength_Jx4a65c_size_8abf5
set_option maxRecDepth 20000 in
theorem ggX13_runLength_X13_passes : GoodIn wsX13_runLength wsX13_passes := goodIn_r _ [175, 176, 177, 178, 179, 180, 181, 182, 183, 184, 185, 186, 187, 188, 189, 190] (by decide +kernel) (by decide +kernel)
set_option maxRecDepth 20000 in
theorem gX13_runLength_X13_passes : GoodIn wsX13_runLength (wsV RX13 55 RX13 yX13_passes wsX13_passes) := goodIn_app (goodIn_of _ (by decide +kernel)) ggX13_runLength_X13_passes
set_option maxRecDepth 20000 in
theorem ggX13_runLength_Jx4a65c_get_915e3 : GoodIn wsX13_runLength wsJx4a65c_get_915e3 := goodIn_r _ [130, 71, 131, 132, 133, 134, 135, 136, 137, 138, 139, 140, 141, 21, 142, 35, 191, 192, 193] (by decide +kernel) (by decide +kernel)
set_option maxRecDepth 20000 in
theorem gX13_runLength_Jx4a65c_get_915e3_f85Jx4a65c : GoodIn wsX13_runLength (va_wsF RX13 85 RJx4a65c ⟨"java/util/List", "get", "(I)Ljava/lang/Object;"⟩ yJx4a65c_get_915e3 wsJx4a65c_get_915e3) := goodIn_app (goodIn_of _ (by decide +kernel)) ggX13_runLength_Jx4a65c_get_915e3
theorem dX13_runLength_0 : decode cX13_runLength 0 = .ok (.iload_n 1, 1) := by decide +kernel
theorem dX13_runLength_1 : decode cX13_runLength 1 = .ok (.invokestatic 44, 3) := by decide +kernel
theorem dX13_runLength_4 : decode cX13_runLength 4 = .ok (.ifCond .eq 25, 3) := by decide +kernel
theorem dX13_runLength_7 : decode cX13_runLength 7 = .ok (.iload_n 2, 1) := by decide +kernel
theorem dX13_runLength_8 : decode cX13_runLength 8 = .ok (.ifCond .lt 21, 3) := by decide +kernel
theorem dX13_runLength_11 : decode cX13_runLength 11 = .ok (.iload_n 2, 1) := by decide +kernel
theorem dX13_runLength_12 : decode cX13_runLength 12 = .ok (.aload_n 0, 1) := by decide +kernel
theorem dX13_runLength_13 : decode cX13_runLength 13 = .ok (.iload_n 1, 1) := by decide +kernel
theorem dX13_runLength_14 : decode cX13_runLength 14 = .ok (.invokevirtual 142, 3) := by decide +kernel
theorem dX13_runLength_17 : decode cX13_runLength 17 = .ok (.invokeinterface 79 1, 5) := by decide +kernel
theorem dX13_runLength_22 : decode cX13_runLength 22 = .ok (.if_icmp .ge 7, 3) := by decide +kernel
theorem dX13_runLength_25 : decode cX13_runLength 25 = .ok (.iconst 1, 1) := by decide +kernel
theorem dX13_runLength_26 : decode cX13_runLength 26 = .ok (.goto 4, 3) := by decide +kernel
theorem dX13_runLength_29 : decode cX13_runLength 29 = .ok (.iconst 0, 1) := by decide +kernel
theorem dX13_runLength_30 : decode cX13_runLength 30 = .ok (.istore_n 3, 1) := by decide +kernel
theorem dX13_runLength_31 : decode cX13_runLength 31 = .ok (.aload_n 0, 1) := by decide +kernel
theorem dX13_runLength_32 : decode cX13_runLength 32 = .ok (.iload_n 3, 1) := by decide +kernel
theorem dX13_runLength_33 : decode cX13_runLength 33 = .ok (.iconst 1, 1) := by decide +kernel
theorem dX13_runLength_34 : decode cX13_runLength 34 = .ok (.iconst 1, 1) := by decide +kernel
theorem dX13_runLength_35 : decode cX13_runLength 35 = .ok (.invokevirtual 55, 3) := by decide +kernel
theorem dX13_runLength_38 : decode cX13_runLength 38 = .ok (.ifCond .eq 21, 3) := by decide +kernel
theorem dX13_runLength_41 : decode cX13_runLength 41 = .ok (.aload_n 0, 1) := by decide +kernel
theorem dX13_runLength_42 : decode cX13_runLength 42 = .ok (.iload_n 1, 1) := by decide +kernel
theorem dX13_runLength_43 : decode cX13_runLength 43 = .ok (.invokevirtual 142, 3) := by decide +kernel
theorem dX13_runLength_46 : decode cX13_runLength 46 = .ok (.iload_n 2, 1) := by decide +kernel
theorem dX13_runLength_47 : decode cX13_runLength 47 = .ok (.invokeinterface 85 2, 5) := by decide +kernel
theorem dX13_runLength_52 : decode cX13_runLength 52 = .ok (.checkcast 146, 3) := by decide +kernel
theorem dX13_runLength_55 : decode cX13_runLength 55 = .ok (.arraylength, 1) := by decide +kernel
theorem dX13_runLength_56 : decode cX13_runLength 56 = .ok (.goto 4, 3) := by decide +kernel
theorem dX13_runLength_59 : decode cX13_runLength 59 = .ok (.iconst 0, 1) := by decide +kernel
theorem dX13_runLength_60 : decode cX13_runLength 60 = .ok (.ireturn, 1) := by decide +kernel
set_option maxRecDepth 20000 in
theorem ggX13_runAt_X13_isTape : GoodIn wsX13_runAt wsX13_isTape := goodIn_r _ [5, 6, 7, 4, 8] (by decide +kernel) (by decide +kernel)
set_option maxRecDepth 20000 in
theorem gX13_runAt_X13_isTape : GoodIn wsX13_runAt (va_wsS RX13 44 yX13_isTape wsX13_isTape) := goodIn_app (goodIn_of _ (by decide +kernel)) ggX13_runAt_X13_isTape
set_option maxRecDepth 20000 in
theorem ggX13_runAt_X13_runsNow : GoodIn wsX13_runAt wsX13_runsNow := goodIn_r _ [12, 13, 14, 15, 16, 17, 4, 18, 19, 20, 21, 22, 23, 24, 25, 26, 27, 28, 29, 30, 31, 32, 33, 34, 35, 36, 37, 38, 39, 40, 41, 42, 43, 44, 45, 46, 47, 48, 49, 50, 51, 52, 53, 54, 55, 56, 57, 58, 59, 60, 61, 62, 63, 64, 65, 66, 67, 68, 69, 70, 71, 72, 73, 74, 75, 76, 77, 78, 79, 80, 81, 82, 83, 84, 85, 86, 87, 88, 89, 90, 91, 92, 93, 94, 95, 96, 97, 98, 99, 100, 101, 102, 103, 104, 105, 106, 107, 108, 109, 110, 111, 112, 113, 114, 115, 116, 117, 118, 119, 120, 121, 122, 123, 124, 125, 126, 127, 128, 129, 130, 131, 132, 133, 134, 135, 136, 137, 138, 139, 140, 141, 142, 143, 144, 145, 146, 147, 148, 149, 150, 151, 152, 153, 154, 155, 156, 157, 158, 159, 160, 161, 162, 163, 164, 165, 166, 167, 168, 169, 170, 171, 177, 178, 179, 180, 181, 182, 183, 184, 185, 186, 187, 188, 189, 190, 191, 192, 193, 194] (by decide +kernel) (by decide +kernel)
set_option maxRecDepth 20000 in
theorem gX13_runAt_X13_runsNow : GoodIn wsX13_runAt (wsV RX13 142 RX13 yX13_runsNow wsX13_runsNow) := goodIn_app (goodIn_of _ (by decide +kernel)) ggX13_runAt_X13_runsNow
set_option maxRecDepth 20000 in
theorem ggX13_runAt_Jx4a65c_size_8abf5 : GoodIn wsX13_runAt wsJx4a65c_size_8abf5 := goodIn_r _ [126, 71, 191, 192, 193] (by decide +kernel) (by decide +kernel)
set_option maxRecDepth 20000 in
theorem gX13_runAt_Jx4a65c_size_8abf5_f79Jx4a65c : GoodIn wsX13_runAt (va_wsF RX13 79 RJx4a65c ⟨"java/util/List", "size", "()I"⟩ yJx4a65c_size_8abf5 wsJx4a65c_size_8abf5) := goodIn_app (goodIn_of _ (by decide +kernel)) ggX13_runAt_Jx4a65c_size_8abf5
set_option maxRecDepth 20000 in
theorem ggX13_runAt_Jx4a65c_get_915e3 : GoodIn wsX13_runAt wsJx4a65c_get_915e3 := goodIn_r _ [130, 71, 131, 132, 133, 134, 135, 136, 137, 138, 139, 140, 141, 21, 142, 35, 191, 192, 193] (by decide +kernel) (by decide +kernel)
set_option maxRecDepth 20000 in
theorem gX13_runAt_Jx4a65c_get_915e3_f85Jx4a65c : GoodIn wsX13_runAt (va_wsF RX13 85 RJx4a65c ⟨"java/util/List", "get", "(I)Ljava/lang/Object;"⟩ yJx4a65c_get_915e3 wsJx4a65c_get_915e3) := goodIn_app (goodIn_of _ (by decide +kernel)) ggX13_runAt_Jx4a65c_get_915e3
set_option maxRecDepth 20000 in
theorem ggX13_runAt_X13_in : GoodIn wsX13_runAt wsX13_in := goodIn_r _ [8] (by decide +kernel) (by decide +kernel)
set_option maxRecDepth 20000 in
theorem gX13_runAt_X13_in : GoodIn wsX13_runAt (va_wsS RX13 7 yX13_in wsX13_in) := goodIn_app (goodIn_of _ (by decide +kernel)) ggX13_runAt_X13_in
set_option maxRecDepth 20000 in
theorem ggX13_runAt_X13_passes : GoodIn wsX13_runAt wsX13_passes := goodIn_r _ [175, 176, 177, 178, 179, 180, 181, 182, 183, 184, 185, 186, 187, 188, 189, 190] (by decide +kernel) (by decide +kernel)
set_option maxRecDepth 20000 in
theorem gX13_runAt_X13_passes : GoodIn wsX13_runAt (wsV RX13 55 RX13 yX13_passes wsX13_passes) := goodIn_app (goodIn_of _ (by decide +kernel)) ggX13_runAt_X13_passes
theorem dX13_runAt_0 : decode cX13_runAt 0 = .ok (.iload_n 1, 1) := by decide +kernel
theorem dX13_runAt_1 : decode cX13_runAt 1 = .ok (.invokestatic 44, 3) := by decide +kernel
theorem dX13_runAt_4 : decode cX13_runAt 4 = .ok (.ifCond .eq 50, 3) := by decide +kernel
theorem dX13_runAt_7 : decode cX13_runAt 7 = .ok (.iload_n 2, 1) := by decide +kernel
theorem dX13_runAt_8 : decode cX13_runAt 8 = .ok (.ifCond .lt 46, 3) := by decide +kernel
theorem dX13_runAt_11 : decode cX13_runAt 11 = .ok (.iload_n 2, 1) := by decide +kernel
theorem dX13_runAt_12 : decode cX13_runAt 12 = .ok (.aload_n 0, 1) := by decide +kernel
theorem dX13_runAt_13 : decode cX13_runAt 13 = .ok (.iload_n 1, 1) := by decide +kernel
theorem dX13_runAt_14 : decode cX13_runAt 14 = .ok (.invokevirtual 142, 3) := by decide +kernel
theorem dX13_runAt_17 : decode cX13_runAt 17 = .ok (.invokeinterface 79 1, 5) := by decide +kernel
theorem dX13_runAt_22 : decode cX13_runAt 22 = .ok (.if_icmp .ge 32, 3) := by decide +kernel
theorem dX13_runAt_25 : decode cX13_runAt 25 = .ok (.iload_n 3, 1) := by decide +kernel
theorem dX13_runAt_26 : decode cX13_runAt 26 = .ok (.iconst 0, 1) := by decide +kernel
theorem dX13_runAt_27 : decode cX13_runAt 27 = .ok (.aload_n 0, 1) := by decide +kernel
theorem dX13_runAt_28 : decode cX13_runAt 28 = .ok (.iload_n 1, 1) := by decide +kernel
theorem dX13_runAt_29 : decode cX13_runAt 29 = .ok (.invokevirtual 142, 3) := by decide +kernel
theorem dX13_runAt_32 : decode cX13_runAt 32 = .ok (.iload_n 2, 1) := by decide +kernel
theorem dX13_runAt_33 : decode cX13_runAt 33 = .ok (.invokeinterface 85 2, 5) := by decide +kernel
theorem dX13_runAt_38 : decode cX13_runAt 38 = .ok (.checkcast 146, 3) := by decide +kernel
theorem dX13_runAt_41 : decode cX13_runAt 41 = .ok (.arraylength, 1) := by decide +kernel
theorem dX13_runAt_42 : decode cX13_runAt 42 = .ok (.iconst 1, 1) := by decide +kernel
theorem dX13_runAt_43 : decode cX13_runAt 43 = .ok (.isub, 1) := by decide +kernel
theorem dX13_runAt_44 : decode cX13_runAt 44 = .ok (.invokestatic 7, 3) := by decide +kernel
theorem dX13_runAt_47 : decode cX13_runAt 47 = .ok (.ifCond .eq 7, 3) := by decide +kernel
theorem dX13_runAt_50 : decode cX13_runAt 50 = .ok (.iconst 1, 1) := by decide +kernel
theorem dX13_runAt_51 : decode cX13_runAt 51 = .ok (.goto 4, 3) := by decide +kernel
theorem dX13_runAt_54 : decode cX13_runAt 54 = .ok (.iconst 0, 1) := by decide +kernel
theorem dX13_runAt_55 : decode cX13_runAt 55 = .ok (.istore 4, 2) := by decide +kernel
theorem dX13_runAt_57 : decode cX13_runAt 57 = .ok (.aload_n 0, 1) := by decide +kernel
theorem dX13_runAt_58 : decode cX13_runAt 58 = .ok (.iload 4, 2) := by decide +kernel
theorem dX13_runAt_60 : decode cX13_runAt 60 = .ok (.iconst 1, 1) := by decide +kernel
theorem dX13_runAt_61 : decode cX13_runAt 61 = .ok (.iconst 1, 1) := by decide +kernel
theorem dX13_runAt_62 : decode cX13_runAt 62 = .ok (.invokevirtual 55, 3) := by decide +kernel
theorem dX13_runAt_65 : decode cX13_runAt 65 = .ok (.ifCond .eq 22, 3) := by decide +kernel
theorem dX13_runAt_68 : decode cX13_runAt 68 = .ok (.aload_n 0, 1) := by decide +kernel
theorem dX13_runAt_69 : decode cX13_runAt 69 = .ok (.iload_n 1, 1) := by decide +kernel
theorem dX13_runAt_70 : decode cX13_runAt 70 = .ok (.invokevirtual 142, 3) := by decide +kernel
theorem dX13_runAt_73 : decode cX13_runAt 73 = .ok (.iload_n 2, 1) := by decide +kernel
theorem dX13_runAt_74 : decode cX13_runAt 74 = .ok (.invokeinterface 85 2, 5) := by decide +kernel
theorem dX13_runAt_79 : decode cX13_runAt 79 = .ok (.checkcast 146, 3) := by decide +kernel
theorem dX13_runAt_82 : decode cX13_runAt 82 = .ok (.iload_n 3, 1) := by decide +kernel
theorem dX13_runAt_83 : decode cX13_runAt 83 = .ok (.iaload, 1) := by decide +kernel
theorem dX13_runAt_84 : decode cX13_runAt 84 = .ok (.goto 4, 3) := by decide +kernel
theorem dX13_runAt_87 : decode cX13_runAt 87 = .ok (.iconst 0, 1) := by decide +kernel
theorem dX13_runAt_88 : decode cX13_runAt 88 = .ok (.ireturn, 1) := by decide +kernel
set_option maxRecDepth 20000 in
theorem ggX13_plan_X13_isTape : GoodIn wsX13_plan wsX13_isTape := goodIn_r _ [10, 11, 12, 9, 13] (by decide +kernel) (by decide +kernel)
set_option maxRecDepth 20000 in
theorem gX13_plan_X13_isTape : GoodIn wsX13_plan (va_wsS RX13 44 yX13_isTape wsX13_isTape) := goodIn_app (goodIn_of _ (by decide +kernel)) ggX13_plan_X13_isTape
set_option maxRecDepth 20000 in
theorem ggX13_plan_X13_in : GoodIn wsX13_plan wsX13_in := goodIn_r _ [13] (by decide +kernel) (by decide +kernel)
set_option maxRecDepth 20000 in
theorem gX13_plan_X13_in : GoodIn wsX13_plan (va_wsS RX13 7 yX13_in wsX13_in) := goodIn_app (goodIn_of _ (by decide +kernel)) ggX13_plan_X13_in
set_option maxRecDepth 20000 in
theorem ggX13_plan_X13_passes : GoodIn wsX13_plan wsX13_passes := goodIn_r _ [17, 18, 252, 253, 254, 255, 256, 257, 258, 259, 260, 261, 262, 263, 264, 265] (by decide +kernel) (by decide +kernel)
set_option maxRecDepth 20000 in
theorem gX13_plan_X13_passes : GoodIn wsX13_plan (wsV RX13 55 RX13 yX13_passes wsX13_passes) := goodIn_app (goodIn_of _ (by decide +kernel)) ggX13_plan_X13_passes
set_option maxRecDepth 20000 in
theorem ggX13_plan_X12_init : GoodIn wsX13_plan wsX12_init := goodIn_r _ [21, 22, 23, 24, 25, 6, 26, 27, 28, 29, 30, 31, 32, 33, 34, 35, 36, 37, 38, 39, 40, 41, 42, 43, 44, 45, 46, 47, 48, 49, 9, 50, 51, 52, 53, 54, 55, 56, 57, 58, 59, 60, 61, 62, 63, 64, 65, 66, 67, 68, 69, 70, 71, 72, 73, 74, 75, 76, 77, 78, 79, 80, 81, 82, 83, 84, 85, 86, 87, 88, 89, 90, 91, 92, 93, 94, 95, 96, 97, 98, 99, 100, 101, 102, 103, 104, 105, 106, 107, 108, 109, 110, 111, 112, 113, 114, 115, 116, 117, 118, 119, 120, 121, 122, 123, 124, 125, 126, 127, 128, 129, 130, 131, 132, 133, 134, 135, 136, 137, 138, 139, 140, 141, 142, 143, 144, 145, 146, 147, 148, 149, 150, 151, 152, 153, 154, 155, 156, 157, 158, 159, 160, 161, 162, 163, 164, 165, 166, 167, 168, 169, 170, 171, 172, 173, 174, 175, 176, 177, 178, 179, 180, 181, 182, 183, 184, 185, 186, 187, 188, 3, 189, 190, 191, 192, 193, 194, 195, 196, 197, 198, 240, 241, 242, 243, 244, 245, 246, 247, 248, 249, 250, 251, 266, 267, 268, 269, 252, 253, 254, 255, 256, 257, 258, 259, 260, 261, 262, 263, 264, 265] (by decide +kernel) (by decide +kernel)
set_option maxRecDepth 20000 in
theorem gX13_plan_X12_init : GoodIn wsX13_plan (wsX12_init) := ggX13_plan_X12_init
set_option maxRecDepth 20000 in
theorem ggX13_plan_X12_goes : GoodIn wsX13_plan wsX12_goes := goodIn_r _ [202, 203, 204, 205, 3, 206, 207, 208, 209, 210, 30, 211, 195, 139, 140, 29, 141, 86, 197, 143, 144, 145, 146, 147, 148, 149, 150, 151, 152, 153, 154, 155, 156, 157, 38, 212, 213, 214, 215, 191, 6, 22, 26, 31, 216, 33, 217, 27, 28, 218, 219, 220, 221, 222, 223, 58, 59, 60, 224, 100, 101, 34, 35, 36, 37, 39, 40, 41, 42, 43, 44, 45, 46, 47, 48, 24, 25, 198, 81, 82, 83, 84, 85, 87, 88, 89, 90, 91, 92, 93, 94, 95, 96, 97, 98, 99, 102, 103, 104, 105, 106, 107, 108, 109, 110, 111, 112, 113, 114, 115, 116, 117, 118, 119, 120, 121, 122, 123, 124, 125, 126, 127, 128, 129, 225, 226, 227, 183, 9, 184, 185, 162, 163, 164, 165, 166, 228, 229, 230, 231, 232, 233, 234, 235, 236, 237, 238, 239, 240, 241, 242, 243, 244, 245, 246, 247, 248, 249, 250, 251, 266, 267, 268, 252, 253, 254, 255, 256, 257, 258, 259, 260, 261, 262, 263, 264, 265] (by decide +kernel) (by decide +kernel)
set_option maxRecDepth 20000 in
theorem gX13_plan_X12_goes : GoodIn wsX13_plan (wsV RX13 155 RX12 yX12_goes wsX12_goes) := goodIn_app (goodIn_of _ (by decide +kernel)) ggX13_plan_X12_goes
theorem dX13_plan_0 : decode cX13_plan 0 = .ok (.aload_n 0, 1) := by decide +kernel
theorem dX13_plan_1 : decode cX13_plan 1 = .ok (.iload_n 1, 1) := by decide +kernel
theorem dX13_plan_2 : decode cX13_plan 2 = .ok (.invokestatic 44, 3) := by decide +kernel
theorem dX13_plan_5 : decode cX13_plan 5 = .ok (.iload_n 2, 1) := by decide +kernel
theorem dX13_plan_6 : decode cX13_plan 6 = .ok (.iconst 0, 1) := by decide +kernel
theorem dX13_plan_7 : decode cX13_plan 7 = .ok (.iconst 3, 1) := by decide +kernel
theorem dX13_plan_8 : decode cX13_plan 8 = .ok (.invokestatic 7, 3) := by decide +kernel
theorem dX13_plan_11 : decode cX13_plan 11 = .ok (.iconst 1, 1) := by decide +kernel
theorem dX13_plan_12 : decode cX13_plan 12 = .ok (.invokevirtual 55, 3) := by decide +kernel
theorem dX13_plan_15 : decode cX13_plan 15 = .ok (.ifCond .ne 5, 3) := by decide +kernel
theorem dX13_plan_18 : decode cX13_plan 18 = .ok (.iconst 0, 1) := by decide +kernel
theorem dX13_plan_19 : decode cX13_plan 19 = .ok (.ireturn, 1) := by decide +kernel
theorem dX13_plan_20 : decode cX13_plan 20 = .ok (.new 147, 3) := by decide +kernel
theorem dX13_plan_23 : decode cX13_plan 23 = .ok (.dup, 1) := by decide +kernel
theorem dX13_plan_24 : decode cX13_plan 24 = .ok (.aload_n 0, 1) := by decide +kernel
theorem dX13_plan_25 : decode cX13_plan 25 = .ok (.aload_n 0, 1) := by decide +kernel
theorem dX13_plan_26 : decode cX13_plan 26 = .ok (.getfield 29, 3) := by decide +kernel
theorem dX13_plan_29 : decode cX13_plan 29 = .ok (.iload_n 1, 1) := by decide +kernel
theorem dX13_plan_30 : decode cX13_plan 30 = .ok (.aaload, 1) := by decide +kernel
theorem dX13_plan_31 : decode cX13_plan 31 = .ok (.iconst 0, 1) := by decide +kernel
theorem dX13_plan_32 : decode cX13_plan 32 = .ok (.aload_n 0, 1) := by decide +kernel
theorem dX13_plan_33 : decode cX13_plan 33 = .ok (.getfield 35, 3) := by decide +kernel
theorem dX13_plan_36 : decode cX13_plan 36 = .ok (.invokespecial 149, 3) := by decide +kernel
theorem dX13_plan_39 : decode cX13_plan 39 = .ok (.astore_n 3, 1) := by decide +kernel
theorem dX13_plan_40 : decode cX13_plan 40 = .ok (.aload_n 3, 1) := by decide +kernel
theorem dX13_plan_41 : decode cX13_plan 41 = .ok (.getfield 152, 3) := by decide +kernel
theorem dX13_plan_44 : decode cX13_plan 44 = .ok (.istore 4, 2) := by decide +kernel
theorem dX13_plan_46 : decode cX13_plan 46 = .ok (.aload_n 3, 1) := by decide +kernel
theorem dX13_plan_47 : decode cX13_plan 47 = .ok (.invokevirtual 155, 3) := by decide +kernel
theorem dX13_plan_50 : decode cX13_plan 50 = .ok (.iconst 4, 1) := by decide +kernel
theorem dX13_plan_51 : decode cX13_plan 51 = .ok (.newarray .int, 2) := by decide +kernel
theorem dX13_plan_53 : decode cX13_plan 53 = .ok (.dup, 1) := by decide +kernel
theorem dX13_plan_54 : decode cX13_plan 54 = .ok (.iconst 0, 1) := by decide +kernel
theorem dX13_plan_55 : decode cX13_plan 55 = .ok (.aload_n 3, 1) := by decide +kernel
theorem dX13_plan_56 : decode cX13_plan 56 = .ok (.getfield 158, 3) := by decide +kernel
theorem dX13_plan_59 : decode cX13_plan 59 = .ok (.iastore, 1) := by decide +kernel
theorem dX13_plan_60 : decode cX13_plan 60 = .ok (.dup, 1) := by decide +kernel
theorem dX13_plan_61 : decode cX13_plan 61 = .ok (.iconst 1, 1) := by decide +kernel
theorem dX13_plan_62 : decode cX13_plan 62 = .ok (.aload_n 3, 1) := by decide +kernel
theorem dX13_plan_63 : decode cX13_plan 63 = .ok (.getfield 152, 3) := by decide +kernel
theorem dX13_plan_66 : decode cX13_plan 66 = .ok (.iload 4, 2) := by decide +kernel
theorem dX13_plan_68 : decode cX13_plan 68 = .ok (.isub, 1) := by decide +kernel
theorem dX13_plan_69 : decode cX13_plan 69 = .ok (.iastore, 1) := by decide +kernel
theorem dX13_plan_70 : decode cX13_plan 70 = .ok (.dup, 1) := by decide +kernel
theorem dX13_plan_71 : decode cX13_plan 71 = .ok (.iconst 2, 1) := by decide +kernel
theorem dX13_plan_72 : decode cX13_plan 72 = .ok (.aload_n 3, 1) := by decide +kernel
theorem dX13_plan_73 : decode cX13_plan 73 = .ok (.getfield 160, 3) := by decide +kernel
theorem dX13_plan_76 : decode cX13_plan 76 = .ok (.iastore, 1) := by decide +kernel
theorem dX13_plan_77 : decode cX13_plan 77 = .ok (.dup, 1) := by decide +kernel
theorem dX13_plan_78 : decode cX13_plan 78 = .ok (.iconst 3, 1) := by decide +kernel
theorem dX13_plan_79 : decode cX13_plan 79 = .ok (.aload_n 3, 1) := by decide +kernel
theorem dX13_plan_80 : decode cX13_plan 80 = .ok (.getfield 163, 3) := by decide +kernel
theorem dX13_plan_83 : decode cX13_plan 83 = .ok (.iastore, 1) := by decide +kernel
theorem dX13_plan_84 : decode cX13_plan 84 = .ok (.astore 5, 2) := by decide +kernel
theorem dX13_plan_86 : decode cX13_plan 86 = .ok (.aload 5, 2) := by decide +kernel
theorem dX13_plan_88 : decode cX13_plan 88 = .ok (.iload_n 2, 1) := by decide +kernel
theorem dX13_plan_89 : decode cX13_plan 89 = .ok (.iaload, 1) := by decide +kernel
theorem dX13_plan_90 : decode cX13_plan 90 = .ok (.ireturn, 1) := by decide +kernel
set_option maxRecDepth 20000 in
theorem ggX13_leastMoves_X13_isTape : GoodIn wsX13_leastMoves wsX13_isTape := goodIn_r _ [10, 11, 12, 9, 13] (by decide +kernel) (by decide +kernel)
set_option maxRecDepth 20000 in
theorem gX13_leastMoves_X13_isTape : GoodIn wsX13_leastMoves (va_wsS RX13 44 yX13_isTape wsX13_isTape) := goodIn_app (goodIn_of _ (by decide +kernel)) ggX13_leastMoves_X13_isTape
set_option maxRecDepth 20000 in
theorem ggX13_leastMoves_X13_passes : GoodIn wsX13_leastMoves wsX13_passes := goodIn_r _ [17, 18, 240, 241, 242, 243, 244, 245, 246, 247, 248, 249, 250, 251, 252, 253] (by decide +kernel) (by decide +kernel)
set_option maxRecDepth 20000 in
theorem gX13_leastMoves_X13_passes : GoodIn wsX13_leastMoves (wsV RX13 55 RX13 yX13_passes wsX13_passes) := goodIn_app (goodIn_of _ (by decide +kernel)) ggX13_leastMoves_X13_passes
set_option maxRecDepth 20000 in
theorem ggX13_leastMoves_X12_init : GoodIn wsX13_leastMoves wsX12_init := goodIn_r _ [21, 22, 23, 24, 25, 1, 26, 27, 28, 29, 30, 31, 32, 33, 34, 35, 36, 37, 38, 39, 40, 41, 42, 43, 44, 45, 46, 47, 48, 49, 9, 50, 51, 52, 53, 54, 55, 56, 57, 58, 59, 60, 61, 62, 63, 64, 65, 66, 67, 68, 69, 70, 71, 72, 73, 74, 75, 76, 77, 78, 79, 80, 81, 82, 83, 84, 85, 86, 87, 88, 89, 90, 91, 92, 93, 94, 95, 96, 97, 98, 99, 100, 101, 102, 103, 104, 105, 106, 107, 108, 109, 110, 111, 112, 113, 114, 115, 116, 117, 118, 119, 120, 121, 122, 123, 124, 125, 126, 127, 128, 129, 130, 131, 132, 133, 134, 135, 136, 137, 138, 139, 140, 141, 142, 143, 144, 145, 146, 147, 148, 149, 150, 151, 152, 153, 154, 155, 156, 157, 158, 159, 160, 161, 162, 163, 164, 165, 166, 167, 168, 169, 170, 171, 172, 173, 174, 175, 176, 177, 178, 179, 180, 181, 182, 183, 184, 185, 186, 187, 188, 5, 189, 190, 191, 192, 193, 194, 195, 196, 197, 198, 254, 255, 256, 257, 258, 259, 260, 261, 262, 263, 264, 265, 266, 267, 268, 269, 240, 241, 242, 243, 244, 245, 246, 247, 248, 249, 250, 251, 252, 253] (by decide +kernel) (by decide +kernel)
set_option maxRecDepth 20000 in
theorem gX13_leastMoves_X12_init : GoodIn wsX13_leastMoves (wsX12_init) := ggX13_leastMoves_X12_init
set_option maxRecDepth 20000 in
theorem ggX13_leastMoves_X12_goes : GoodIn wsX13_leastMoves wsX12_goes := goodIn_r _ [202, 203, 204, 205, 5, 206, 207, 208, 209, 210, 30, 211, 195, 139, 140, 29, 141, 86, 197, 143, 144, 145, 146, 147, 148, 149, 150, 151, 152, 153, 154, 155, 156, 157, 38, 212, 213, 214, 215, 191, 1, 22, 26, 31, 216, 33, 217, 27, 28, 218, 219, 220, 221, 222, 223, 58, 59, 60, 224, 100, 101, 34, 35, 36, 37, 39, 40, 41, 42, 43, 44, 45, 46, 47, 48, 24, 25, 198, 81, 82, 83, 84, 85, 87, 88, 89, 90, 91, 92, 93, 94, 95, 96, 97, 98, 99, 102, 103, 104, 105, 106, 107, 108, 109, 110, 111, 112, 113, 114, 115, 116, 117, 118, 119, 120, 121, 122, 123, 124, 125, 126, 127, 128, 129, 225, 226, 227, 183, 9, 184, 185, 162, 163, 164, 165, 166, 228, 229, 230, 231, 232, 233, 234, 235, 236, 237, 238, 239, 254, 255, 256, 257, 258, 259, 260, 261, 262, 263, 264, 265, 266, 267, 268, 240, 241, 242, 243, 244, 245, 246, 247, 248, 249, 250, 251, 252, 253] (by decide +kernel) (by decide +kernel)
set_option maxRecDepth 20000 in
theorem gX13_leastMoves_X12_goes : GoodIn wsX13_leastMoves (wsV RX13 155 RX12 yX12_goes wsX12_goes) := goodIn_app (goodIn_of _ (by decide +kernel)) ggX13_leastMoves_X12_goes
theorem dX13_leastMoves_0 : decode cX13_leastMoves 0 = .ok (.aload_n 0, 1) := by decide +kernel
theorem dX13_leastMoves_1 : decode cX13_leastMoves 1 = .ok (.iload_n 1, 1) := by decide +kernel
theorem dX13_leastMoves_2 : decode cX13_leastMoves 2 = .ok (.invokestatic 44, 3) := by decide +kernel
theorem dX13_leastMoves_5 : decode cX13_leastMoves 5 = .ok (.iconst 1, 1) := by decide +kernel
theorem dX13_leastMoves_6 : decode cX13_leastMoves 6 = .ok (.iconst 1, 1) := by decide +kernel
theorem dX13_leastMoves_7 : decode cX13_leastMoves 7 = .ok (.invokevirtual 55, 3) := by decide +kernel
theorem dX13_leastMoves_10 : decode cX13_leastMoves 10 = .ok (.ifCond .ne 5, 3) := by decide +kernel
theorem dX13_leastMoves_13 : decode cX13_leastMoves 13 = .ok (.iconst 0, 1) := by decide +kernel
theorem dX13_leastMoves_14 : decode cX13_leastMoves 14 = .ok (.ireturn, 1) := by decide +kernel
theorem dX13_leastMoves_15 : decode cX13_leastMoves 15 = .ok (.iconst 5, 1) := by decide +kernel
theorem dX13_leastMoves_16 : decode cX13_leastMoves 16 = .ok (.newarray .int, 2) := by decide +kernel
theorem dX13_leastMoves_18 : decode cX13_leastMoves 18 = .ok (.dup, 1) := by decide +kernel
theorem dX13_leastMoves_19 : decode cX13_leastMoves 19 = .ok (.iconst 0, 1) := by decide +kernel
theorem dX13_leastMoves_20 : decode cX13_leastMoves 20 = .ok (.aload_n 0, 1) := by decide +kernel
theorem dX13_leastMoves_21 : decode cX13_leastMoves 21 = .ok (.getfield 35, 3) := by decide +kernel
theorem dX13_leastMoves_24 : decode cX13_leastMoves 24 = .ok (.iconst 0, 1) := by decide +kernel
theorem dX13_leastMoves_25 : decode cX13_leastMoves 25 = .ok (.iaload, 1) := by decide +kernel
theorem dX13_leastMoves_26 : decode cX13_leastMoves 26 = .ok (.iastore, 1) := by decide +kernel
theorem dX13_leastMoves_27 : decode cX13_leastMoves 27 = .ok (.dup, 1) := by decide +kernel
theorem dX13_leastMoves_28 : decode cX13_leastMoves 28 = .ok (.iconst 1, 1) := by decide +kernel
theorem dX13_leastMoves_29 : decode cX13_leastMoves 29 = .ok (.aload_n 0, 1) := by decide +kernel
theorem dX13_leastMoves_30 : decode cX13_leastMoves 30 = .ok (.getfield 35, 3) := by decide +kernel
theorem dX13_leastMoves_33 : decode cX13_leastMoves 33 = .ok (.iconst 1, 1) := by decide +kernel
theorem dX13_leastMoves_34 : decode cX13_leastMoves 34 = .ok (.iaload, 1) := by decide +kernel
theorem dX13_leastMoves_35 : decode cX13_leastMoves 35 = .ok (.iastore, 1) := by decide +kernel
theorem dX13_leastMoves_36 : decode cX13_leastMoves 36 = .ok (.dup, 1) := by decide +kernel
theorem dX13_leastMoves_37 : decode cX13_leastMoves 37 = .ok (.iconst 2, 1) := by decide +kernel
theorem dX13_leastMoves_38 : decode cX13_leastMoves 38 = .ok (.aload_n 0, 1) := by decide +kernel
theorem dX13_leastMoves_39 : decode cX13_leastMoves 39 = .ok (.getfield 35, 3) := by decide +kernel
theorem dX13_leastMoves_42 : decode cX13_leastMoves 42 = .ok (.iconst 2, 1) := by decide +kernel
theorem dX13_leastMoves_43 : decode cX13_leastMoves 43 = .ok (.iaload, 1) := by decide +kernel
theorem dX13_leastMoves_44 : decode cX13_leastMoves 44 = .ok (.iastore, 1) := by decide +kernel
theorem dX13_leastMoves_45 : decode cX13_leastMoves 45 = .ok (.dup, 1) := by decide +kernel
theorem dX13_leastMoves_46 : decode cX13_leastMoves 46 = .ok (.iconst 3, 1) := by decide +kernel
theorem dX13_leastMoves_47 : decode cX13_leastMoves 47 = .ok (.iconst 1, 1) := by decide +kernel
theorem dX13_leastMoves_48 : decode cX13_leastMoves 48 = .ok (.iastore, 1) := by decide +kernel
theorem dX13_leastMoves_49 : decode cX13_leastMoves 49 = .ok (.dup, 1) := by decide +kernel
theorem dX13_leastMoves_50 : decode cX13_leastMoves 50 = .ok (.iconst 4, 1) := by decide +kernel
theorem dX13_leastMoves_51 : decode cX13_leastMoves 51 = .ok (.iconst 2, 1) := by decide +kernel
theorem dX13_leastMoves_52 : decode cX13_leastMoves 52 = .ok (.iastore, 1) := by decide +kernel
theorem dX13_leastMoves_53 : decode cX13_leastMoves 53 = .ok (.astore_n 2, 1) := by decide +kernel
theorem dX13_leastMoves_54 : decode cX13_leastMoves 54 = .ok (.new 147, 3) := by decide +kernel
theorem dX13_leastMoves_57 : decode cX13_leastMoves 57 = .ok (.dup, 1) := by decide +kernel
theorem dX13_leastMoves_58 : decode cX13_leastMoves 58 = .ok (.aload_n 0, 1) := by decide +kernel
theorem dX13_leastMoves_59 : decode cX13_leastMoves 59 = .ok (.aload_n 0, 1) := by decide +kernel
theorem dX13_leastMoves_60 : decode cX13_leastMoves 60 = .ok (.getfield 29, 3) := by decide +kernel
theorem dX13_leastMoves_63 : decode cX13_leastMoves 63 = .ok (.iload_n 1, 1) := by decide +kernel
theorem dX13_leastMoves_64 : decode cX13_leastMoves 64 = .ok (.aaload, 1) := by decide +kernel
theorem dX13_leastMoves_65 : decode cX13_leastMoves 65 = .ok (.iconst 0, 1) := by decide +kernel
theorem dX13_leastMoves_66 : decode cX13_leastMoves 66 = .ok (.aload_n 2, 1) := by decide +kernel
theorem dX13_leastMoves_67 : decode cX13_leastMoves 67 = .ok (.invokespecial 149, 3) := by decide +kernel
theorem dX13_leastMoves_70 : decode cX13_leastMoves 70 = .ok (.astore_n 3, 1) := by decide +kernel
theorem dX13_leastMoves_71 : decode cX13_leastMoves 71 = .ok (.aload_n 3, 1) := by decide +kernel
theorem dX13_leastMoves_72 : decode cX13_leastMoves 72 = .ok (.getfield 152, 3) := by decide +kernel
theorem dX13_leastMoves_75 : decode cX13_leastMoves 75 = .ok (.istore 4, 2) := by decide +kernel
theorem dX13_leastMoves_77 : decode cX13_leastMoves 77 = .ok (.aload_n 3, 1) := by decide +kernel
theorem dX13_leastMoves_78 : decode cX13_leastMoves 78 = .ok (.invokevirtual 155, 3) := by decide +kernel
theorem dX13_leastMoves_81 : decode cX13_leastMoves 81 = .ok (.aload_n 3, 1) := by decide +kernel
theorem dX13_leastMoves_82 : decode cX13_leastMoves 82 = .ok (.getfield 152, 3) := by decide +kernel
theorem dX13_leastMoves_85 : decode cX13_leastMoves 85 = .ok (.iload 4, 2) := by decide +kernel
theorem dX13_leastMoves_87 : decode cX13_leastMoves 87 = .ok (.isub, 1) := by decide +kernel
theorem dX13_leastMoves_88 : decode cX13_leastMoves 88 = .ok (.ireturn, 1) := by decide +kernel
set_option maxRecDepth 20000 in
theorem ggX13_ends_X12_isOver : GoodIn wsX13_ends wsX12_isOver := goodIn_r _ [7, 8, 9, 10, 6, 11, 12, 13, 14, 15, 16, 17, 18, 19, 20, 21, 22, 23, 24, 25, 26, 27, 28, 29, 30, 31, 32, 33, 34, 35, 36, 61, 62, 63, 64, 65, 66, 67, 68, 69, 70, 71, 72, 73, 74, 75] (by decide +kernel) (by decide +kernel)
set_option maxRecDepth 20000 in
theorem gX13_ends_X12_isOver : GoodIn wsX13_ends (wsV RX13 170 RX12 yX12_isOver wsX12_isOver) := goodIn_app (goodIn_of _ (by decide +kernel)) ggX13_ends_X12_isOver
set_option maxRecDepth 20000 in
theorem ggX13_ends_X12_result : GoodIn wsX13_ends wsX12_result := goodIn_r _ [40, 12, 13, 41, 42, 14, 15, 16, 17, 18, 19, 20, 21, 22, 23, 24, 25, 26, 27, 28, 29, 30, 31, 32, 33, 34, 35, 36, 43, 44, 45, 46, 61, 62, 63, 64, 65, 66, 67, 68, 69, 70, 71, 72, 73, 74, 75] (by decide +kernel) (by decide +kernel)
set_option maxRecDepth 20000 in
theorem gX13_ends_X12_result : GoodIn wsX13_ends (wsV RX13 176 RX12 yX12_result wsX12_result) := goodIn_app (goodIn_of _ (by decide +kernel)) ggX13_ends_X12_result
theorem dX13_ends_0 : decode cX13_ends 0 = .ok (.aload_n 0, 1) := by decide +kernel
theorem dX13_ends_1 : decode cX13_ends 1 = .ok (.getfield 166, 3) := by decide +kernel
theorem dX13_ends_4 : decode cX13_ends 4 = .ok (.invokevirtual 170, 3) := by decide +kernel
theorem dX13_ends_7 : decode cX13_ends 7 = .ok (.ifCond .eq 22, 3) := by decide +kernel
theorem dX13_ends_10 : decode cX13_ends 10 = .ok (.aload_n 0, 1) := by decide +kernel
theorem dX13_ends_11 : decode cX13_ends 11 = .ok (.getfield 29, 3) := by decide +kernel
theorem dX13_ends_14 : decode cX13_ends 14 = .ok (.aload_n 0, 1) := by decide +kernel
theorem dX13_ends_15 : decode cX13_ends 15 = .ok (.getfield 166, 3) := by decide +kernel
theorem dX13_ends_18 : decode cX13_ends 18 = .ok (.getfield 173, 3) := by decide +kernel
theorem dX13_ends_21 : decode cX13_ends 21 = .ok (.aload_n 0, 1) := by decide +kernel
theorem dX13_ends_22 : decode cX13_ends 22 = .ok (.getfield 166, 3) := by decide +kernel
theorem dX13_ends_25 : decode cX13_ends 25 = .ok (.invokevirtual 176, 3) := by decide +kernel
theorem dX13_ends_28 : decode cX13_ends 28 = .ok (.aastore, 1) := by decide +kernel
theorem dX13_ends_29 : decode cX13_ends 29 = .ok (.return_, 1) := by decide +kernel
set_option maxRecDepth 20000 in
theorem ggX13_begin_X13_isTape : GoodIn wsX13_begin wsX13_isTape := goodIn_r _ [10, 11, 12, 9, 13] (by decide +kernel) (by decide +kernel)
set_option maxRecDepth 20000 in
theorem gX13_begin_X13_isTape : GoodIn wsX13_begin (va_wsS RX13 44 yX13_isTape wsX13_isTape) := goodIn_app (goodIn_of _ (by decide +kernel)) ggX13_begin_X13_isTape
set_option maxRecDepth 20000 in
theorem ggX13_begin_X13_passes : GoodIn wsX13_begin wsX13_passes := goodIn_r _ [17, 18, 234, 235, 236, 237, 238, 239, 240, 241, 242, 243, 244, 245, 246, 247] (by decide +kernel) (by decide +kernel)
set_option maxRecDepth 20000 in
theorem gX13_begin_X13_passes : GoodIn wsX13_begin (wsV RX13 55 RX13 yX13_passes wsX13_passes) := goodIn_app (goodIn_of _ (by decide +kernel)) ggX13_begin_X13_passes
set_option maxRecDepth 20000 in
theorem ggX13_begin_X13_runsNow : GoodIn wsX13_begin wsX13_runsNow := goodIn_r _ [22, 4, 5, 23, 24, 25, 9, 26, 27, 28, 29, 30, 31, 32, 33, 34, 35, 36, 37, 38, 39, 40, 41, 42, 43, 44, 45, 46, 47, 48, 49, 50, 51, 52, 53, 54, 55, 56, 57, 58, 59, 60, 61, 62, 63, 64, 65, 66, 67, 68, 69, 70, 71, 72, 73, 74, 75, 76, 77, 78, 79, 80, 81, 82, 83, 84, 85, 86, 87, 88, 89, 90, 91, 92, 93, 94, 95, 96, 97, 98, 99, 100, 101, 102, 103, 104, 105, 106, 107, 108, 109, 110, 111, 112, 113, 114, 115, 116, 117, 118, 119, 120, 121, 122, 123, 124, 125, 126, 127, 128, 129, 130, 131, 132, 133, 134, 135, 136, 137, 138, 139, 140, 141, 142, 143, 144, 145, 146, 147, 148, 149, 150, 151, 152, 153, 154, 155, 156, 157, 158, 159, 160, 161, 162, 163, 164, 165, 166, 167, 168, 169, 170, 171, 172, 173, 174, 175, 176, 177, 178, 179, 234, 235, 236, 237, 238, 239, 240, 241, 242, 243, 244, 245, 246, 247, 248, 249, 250, 251] (by decide +kernel) (by decide +kernel)
set_option maxRecDepth 20000 in
theorem gX13_begin_X13_runsNow : GoodIn wsX13_begin (wsV RX13 142 RX13 yX13_runsNow wsX13_runsNow) := goodIn_app (goodIn_of _ (by decide +kernel)) ggX13_begin_X13_runsNow
set_option maxRecDepth 20000 in
theorem ggX13_begin_Jx4a65c_size_8abf5 : GoodIn wsX13_begin wsJx4a65c_size_8abf5 := goodIn_r _ [134, 79, 248, 249, 250] (by decide +kernel) (by decide +kernel)
set_option maxRecDepth 20000 in
theorem gX13_begin_Jx4a65c_size_8abf5_f79Jx4a65c : GoodIn wsX13_begin (va_wsF RX13 79 RJx4a65c ⟨"java/util/List", "size", "()I"⟩ yJx4a65c_size_8abf5 wsJx4a65c_size_8abf5) := goodIn_app (goodIn_of _ (by decide +kernel)) ggX13_begin_Jx4a65c_size_8abf5
set_option maxRecDepth 20000 in
theorem ggX13_begin_X12_init : GoodIn wsX13_begin wsX12_init := goodIn_r _ [182, 183, 184, 54, 55, 172, 185, 186, 28, 29, 187, 188, 189, 190, 191, 40, 41, 42, 43, 44, 45, 46, 47, 48, 49, 50, 51, 52, 53, 24, 9, 25, 26, 27, 30, 31, 32, 33, 34, 35, 36, 37, 38, 39, 56, 57, 58, 59, 60, 61, 62, 63, 64, 65, 66, 67, 68, 69, 70, 71, 72, 73, 74, 75, 76, 77, 78, 79, 80, 81, 82, 83, 84, 85, 86, 87, 88, 89, 90, 91, 92, 93, 94, 95, 96, 97, 98, 99, 100, 101, 102, 103, 104, 105, 106, 107, 108, 109, 110, 111, 112, 113, 114, 115, 116, 117, 118, 119, 120, 121, 122, 123, 124, 125, 126, 127, 128, 129, 130, 131, 132, 133, 134, 135, 136, 137, 138, 139, 140, 141, 142, 143, 144, 145, 146, 147, 148, 149, 150, 151, 152, 153, 154, 155, 156, 157, 158, 159, 160, 161, 162, 163, 164, 165, 166, 167, 168, 169, 170, 171, 173, 174, 175, 176, 177, 178, 179, 192, 193, 194, 3, 195, 196, 197, 198, 199, 200, 201, 202, 203, 204, 222, 223, 224, 225, 226, 227, 228, 229, 230, 231, 232, 233, 248, 249, 250, 251, 234, 235, 236, 237, 238, 239, 240, 241, 242, 243, 244, 245, 246, 247] (by decide +kernel) (by decide +kernel)
set_option maxRecDepth 20000 in
theorem gX13_begin_X12_init : GoodIn wsX13_begin (wsX12_init) := ggX13_begin_X12_init
set_option maxRecDepth 20000 in
theorem ggX13_begin_X13_ends : GoodIn wsX13_begin wsX13_ends := goodIn_r _ [208, 6, 4, 209, 210, 211, 3, 212, 213, 214, 215, 216, 187, 217, 201, 132, 133, 29, 134, 79, 203, 136, 137, 138, 139, 140, 141, 142, 143, 144, 145, 146, 147, 148, 149, 150, 43, 218, 219, 220, 221, 197, 172, 202, 124, 125, 126, 234, 235, 236, 237, 238, 239, 240, 241, 242, 243, 244, 245, 246, 247, 222, 223, 224, 225, 226, 227, 228, 229, 230, 231, 232, 233, 248, 249, 250] (by decide +kernel) (by decide +kernel)
set_option maxRecDepth 20000 in
theorem gX13_begin_X13_ends : GoodIn wsX13_begin (wsV RX13 180 RX13 yX13_ends wsX13_ends) := goodIn_app (goodIn_of _ (by decide +kernel)) ggX13_begin_X13_ends
theorem dX13_begin_0 : decode cX13_begin 0 = .ok (.aload_n 0, 1) := by decide +kernel
theorem dX13_begin_1 : decode cX13_begin 1 = .ok (.iload_n 1, 1) := by decide +kernel
theorem dX13_begin_2 : decode cX13_begin 2 = .ok (.invokestatic 44, 3) := by decide +kernel
theorem dX13_begin_5 : decode cX13_begin 5 = .ok (.ifCond .eq 14, 3) := by decide +kernel
theorem dX13_begin_8 : decode cX13_begin 8 = .ok (.iload_n 2, 1) := by decide +kernel
theorem dX13_begin_9 : decode cX13_begin 9 = .ok (.invokestatic 44, 3) := by decide +kernel
theorem dX13_begin_12 : decode cX13_begin 12 = .ok (.ifCond .eq 7, 3) := by decide +kernel
theorem dX13_begin_15 : decode cX13_begin 15 = .ok (.iconst 1, 1) := by decide +kernel
theorem dX13_begin_16 : decode cX13_begin 16 = .ok (.goto 4, 3) := by decide +kernel
theorem dX13_begin_19 : decode cX13_begin 19 = .ok (.iconst 0, 1) := by decide +kernel
theorem dX13_begin_20 : decode cX13_begin 20 = .ok (.iconst 1, 1) := by decide +kernel
theorem dX13_begin_21 : decode cX13_begin 21 = .ok (.iconst 1, 1) := by decide +kernel
theorem dX13_begin_22 : decode cX13_begin 22 = .ok (.invokevirtual 55, 3) := by decide +kernel
theorem dX13_begin_25 : decode cX13_begin 25 = .ok (.ifCond .ne 5, 3) := by decide +kernel
theorem dX13_begin_28 : decode cX13_begin 28 = .ok (.iconst 0, 1) := by decide +kernel
theorem dX13_begin_29 : decode cX13_begin 29 = .ok (.ireturn, 1) := by decide +kernel
theorem dX13_begin_30 : decode cX13_begin 30 = .ok (.aload_n 0, 1) := by decide +kernel
theorem dX13_begin_31 : decode cX13_begin 31 = .ok (.iload_n 1, 1) := by decide +kernel
theorem dX13_begin_32 : decode cX13_begin 32 = .ok (.invokevirtual 142, 3) := by decide +kernel
theorem dX13_begin_35 : decode cX13_begin 35 = .ok (.invokeinterface 79 1, 5) := by decide +kernel
theorem dX13_begin_40 : decode cX13_begin 40 = .ok (.istore_n 3, 1) := by decide +kernel
theorem dX13_begin_41 : decode cX13_begin 41 = .ok (.aload_n 0, 1) := by decide +kernel
theorem dX13_begin_42 : decode cX13_begin 42 = .ok (.new 147, 3) := by decide +kernel
theorem dX13_begin_45 : decode cX13_begin 45 = .ok (.dup, 1) := by decide +kernel
theorem dX13_begin_46 : decode cX13_begin 46 = .ok (.aload_n 0, 1) := by decide +kernel
theorem dX13_begin_47 : decode cX13_begin 47 = .ok (.aload_n 0, 1) := by decide +kernel
theorem dX13_begin_48 : decode cX13_begin 48 = .ok (.getfield 29, 3) := by decide +kernel
theorem dX13_begin_51 : decode cX13_begin 51 = .ok (.iload_n 1, 1) := by decide +kernel
theorem dX13_begin_52 : decode cX13_begin 52 = .ok (.aaload, 1) := by decide +kernel
theorem dX13_begin_53 : decode cX13_begin 53 = .ok (.iload_n 2, 1) := by decide +kernel
theorem dX13_begin_54 : decode cX13_begin 54 = .ok (.aload_n 0, 1) := by decide +kernel
theorem dX13_begin_55 : decode cX13_begin 55 = .ok (.getfield 35, 3) := by decide +kernel
theorem dX13_begin_58 : decode cX13_begin 58 = .ok (.invokespecial 149, 3) := by decide +kernel
theorem dX13_begin_61 : decode cX13_begin 61 = .ok (.putfield 166, 3) := by decide +kernel
theorem dX13_begin_64 : decode cX13_begin 64 = .ok (.aload_n 0, 1) := by decide +kernel
theorem dX13_begin_65 : decode cX13_begin 65 = .ok (.invokevirtual 180, 3) := by decide +kernel
theorem dX13_begin_68 : decode cX13_begin 68 = .ok (.iload_n 3, 1) := by decide +kernel
theorem dX13_begin_69 : decode cX13_begin 69 = .ok (.ireturn, 1) := by decide +kernel
set_option maxRecDepth 20000 in
theorem ggX13_work_X13_in : GoodIn wsX13_work wsX13_in := goodIn_r _ [5] (by decide +kernel) (by decide +kernel)
set_option maxRecDepth 20000 in
theorem gX13_work_X13_in : GoodIn wsX13_work (va_wsS RX13 7 yX13_in wsX13_in) := goodIn_app (goodIn_of _ (by decide +kernel)) ggX13_work_X13_in
set_option maxRecDepth 20000 in
theorem ggX13_work_X12_isOver : GoodIn wsX13_work wsX12_isOver := goodIn_r _ [10, 11, 12, 13, 9, 14, 15, 16, 17, 18, 19, 20, 21, 22, 23, 24, 25, 26, 27, 28, 29, 30, 31, 32, 33, 34, 35, 36, 37, 38, 39, 184, 185, 186, 187, 188, 189, 190, 191, 192, 193, 194, 195, 196, 197, 198] (by decide +kernel) (by decide +kernel)
set_option maxRecDepth 20000 in
theorem gX13_work_X12_isOver : GoodIn wsX13_work (wsV RX13 170 RX12 yX12_isOver wsX12_isOver) := goodIn_app (goodIn_of _ (by decide +kernel)) ggX13_work_X12_isOver
set_option maxRecDepth 20000 in
theorem ggX13_work_X13_passes : GoodIn wsX13_work wsX13_passes := goodIn_r _ [43, 44, 170, 171, 172, 173, 174, 175, 176, 177, 178, 179, 180, 181, 182, 183] (by decide +kernel) (by decide +kernel)
set_option maxRecDepth 20000 in
theorem gX13_work_X13_passes : GoodIn wsX13_work (wsV RX13 55 RX13 yX13_passes wsX13_passes) := goodIn_app (goodIn_of _ (by decide +kernel)) ggX13_work_X13_passes
set_option maxRecDepth 20000 in
theorem ggX13_work_X12_merge : GoodIn wsX13_work wsX12_merge := goodIn_r _ [48, 49, 50, 51, 52, 53, 54, 55, 56, 15, 57, 58, 20, 59, 60, 61, 62, 9, 63, 16, 64, 65, 66, 67, 68, 69, 70, 71, 72, 73, 74, 39, 75, 76, 77, 78, 79, 80, 81, 82, 83, 84, 85, 86, 17, 18, 19, 21, 22, 23, 24, 25, 26, 27, 28, 29, 30, 31, 32, 33, 34, 35, 36, 37, 38, 87, 88, 89, 90, 91, 92, 93, 94, 95, 96, 97, 98, 99, 100, 101, 102, 103, 104, 105, 106, 107, 108, 109, 110, 111, 112, 113, 114, 115, 116, 117, 118, 119, 120, 121, 122, 123, 124, 125, 126, 127, 128, 129, 130, 131, 132, 133, 134, 135, 136, 137, 4, 138, 139, 140, 141, 142, 143, 144, 145, 146, 147, 148, 149, 150, 151, 152, 153, 154, 155, 156, 184, 185, 186, 187, 188, 189, 190, 191, 192, 193, 194, 195, 196, 197, 198, 170, 171, 172, 173, 174, 175, 176, 177, 178, 179, 180, 181, 182, 183] (by decide +kernel) (by decide +kernel)
set_option maxRecDepth 20000 in
theorem gX13_work_X12_merge : GoodIn wsX13_work (wsV RX13 183 RX12 yX12_merge wsX12_merge) := goodIn_app (goodIn_of _ (by decide +kernel)) ggX13_work_X12_merge
set_option maxRecDepth 20000 in
theorem ggX13_work_X13_ends : GoodIn wsX13_work wsX13_ends := goodIn_r _ [160, 1, 161, 6, 7, 8, 9, 10, 11, 12, 13, 14, 15, 16, 17, 18, 19, 20, 21, 22, 23, 24, 25, 26, 27, 28, 29, 30, 31, 32, 33, 34, 35, 36, 37, 38, 39, 162, 163, 164, 165, 49, 50, 166, 167, 168, 169, 170, 171, 172, 173, 174, 175, 176, 177, 178, 179, 180, 181, 182, 183, 184, 185, 186, 187, 188, 189, 190, 191, 192, 193, 194, 195, 196, 197, 198] (by decide +kernel) (by decide +kernel)
set_option maxRecDepth 20000 in
theorem gX13_work_X13_ends : GoodIn wsX13_work (wsV RX13 180 RX13 yX13_ends wsX13_ends) := goodIn_app (goodIn_of _ (by decide +kernel)) ggX13_work_X13_ends
theorem dX13_work_0 : decode cX13_work 0 = .ok (.aload_n 0, 1) := by decide +kernel
theorem dX13_work_1 : decode cX13_work 1 = .ok (.iload_n 1, 1) := by decide +kernel
theorem dX13_work_2 : decode cX13_work 2 = .ok (.iconst 1, 1) := by decide +kernel
theorem dX13_work_3 : decode cX13_work 3 = .ok (.sipush 200, 3) := by decide +kernel
theorem dX13_work_6 : decode cX13_work 6 = .ok (.invokestatic 7, 3) := by decide +kernel
theorem dX13_work_9 : decode cX13_work 9 = .ok (.aload_n 0, 1) := by decide +kernel
theorem dX13_work_10 : decode cX13_work 10 = .ok (.getfield 166, 3) := by decide +kernel
theorem dX13_work_13 : decode cX13_work 13 = .ok (.ifnull 17, 3) := by decide +kernel
theorem dX13_work_16 : decode cX13_work 16 = .ok (.aload_n 0, 1) := by decide +kernel
theorem dX13_work_17 : decode cX13_work 17 = .ok (.getfield 166, 3) := by decide +kernel
theorem dX13_work_20 : decode cX13_work 20 = .ok (.invokevirtual 170, 3) := by decide +kernel
theorem dX13_work_23 : decode cX13_work 23 = .ok (.ifCond .ne 7, 3) := by decide +kernel
theorem dX13_work_26 : decode cX13_work 26 = .ok (.iconst 1, 1) := by decide +kernel
theorem dX13_work_27 : decode cX13_work 27 = .ok (.goto 4, 3) := by decide +kernel
theorem dX13_work_30 : decode cX13_work 30 = .ok (.iconst 0, 1) := by decide +kernel
theorem dX13_work_31 : decode cX13_work 31 = .ok (.iconst 1, 1) := by decide +kernel
theorem dX13_work_32 : decode cX13_work 32 = .ok (.invokevirtual 55, 3) := by decide +kernel
theorem dX13_work_35 : decode cX13_work 35 = .ok (.ifCond .ne 5, 3) := by decide +kernel
theorem dX13_work_38 : decode cX13_work 38 = .ok (.iconst 0, 1) := by decide +kernel
theorem dX13_work_39 : decode cX13_work 39 = .ok (.ireturn, 1) := by decide +kernel
theorem dX13_work_40 : decode cX13_work 40 = .ok (.iconst 0, 1) := by decide +kernel
theorem dX13_work_41 : decode cX13_work 41 = .ok (.istore_n 2, 1) := by decide +kernel
theorem dX13_work_42 : decode cX13_work 42 = .ok (.iload_n 2, 1) := by decide +kernel
theorem dX13_work_43 : decode cX13_work 43 = .ok (.iload_n 1, 1) := by decide +kernel
theorem dX13_work_44 : decode cX13_work 44 = .ok (.if_icmp .ge 26, 3) := by decide +kernel
theorem dX13_work_47 : decode cX13_work 47 = .ok (.aload_n 0, 1) := by decide +kernel
theorem dX13_work_48 : decode cX13_work 48 = .ok (.getfield 166, 3) := by decide +kernel
theorem dX13_work_51 : decode cX13_work 51 = .ok (.invokevirtual 170, 3) := by decide +kernel
theorem dX13_work_54 : decode cX13_work 54 = .ok (.ifCond .ne 16, 3) := by decide +kernel
theorem dX13_work_57 : decode cX13_work 57 = .ok (.aload_n 0, 1) := by decide +kernel
theorem dX13_work_58 : decode cX13_work 58 = .ok (.getfield 166, 3) := by decide +kernel
theorem dX13_work_61 : decode cX13_work 61 = .ok (.invokevirtual 183, 3) := by decide +kernel
theorem dX13_work_64 : decode cX13_work 64 = .ok (.iinc 2 1, 3) := by decide +kernel
theorem dX13_work_67 : decode cX13_work 67 = .ok (.goto (-25), 3) := by decide +kernel
theorem dX13_work_70 : decode cX13_work 70 = .ok (.aload_n 0, 1) := by decide +kernel
theorem dX13_work_71 : decode cX13_work 71 = .ok (.invokevirtual 180, 3) := by decide +kernel
theorem dX13_work_74 : decode cX13_work 74 = .ok (.iload_n 2, 1) := by decide +kernel
theorem dX13_work_75 : decode cX13_work 75 = .ok (.ireturn, 1) := by decide +kernel
set_option maxRecDepth 20000 in
theorem ggX13_tear_X12_isOver : GoodIn wsX13_tear wsX12_isOver := goodIn_r _ [6, 7, 8, 9, 5, 10, 11, 12, 13, 14, 15, 16, 17, 18, 19, 20, 21, 22, 23, 24, 25, 26, 27, 28, 29, 30, 31, 32, 33, 34, 35, 82, 83, 84, 85, 86, 87, 88, 89, 90, 91, 92, 93, 94, 95, 96] (by decide +kernel) (by decide +kernel)
set_option maxRecDepth 20000 in
theorem gX13_tear_X12_isOver : GoodIn wsX13_tear (wsV RX13 170 RX12 yX12_isOver wsX12_isOver) := goodIn_app (goodIn_of _ (by decide +kernel)) ggX13_tear_X12_isOver
set_option maxRecDepth 20000 in
theorem ggX13_tear_X13_passes : GoodIn wsX13_tear wsX13_passes := goodIn_r _ [40, 41, 68, 69, 70, 71, 72, 73, 74, 75, 76, 77, 78, 79, 80, 81] (by decide +kernel) (by decide +kernel)
set_option maxRecDepth 20000 in
theorem gX13_tear_X13_passes : GoodIn wsX13_tear (wsV RX13 55 RX13 yX13_passes wsX13_passes) := goodIn_app (goodIn_of _ (by decide +kernel)) ggX13_tear_X13_passes
set_option maxRecDepth 20000 in
theorem ggX13_tear_X12_tear : GoodIn wsX13_tear wsX12_tear := goodIn_r _ [45, 46, 47, 48, 49, 16, 50, 51, 52, 53, 54, 55, 35, 56, 57, 58, 59, 60, 61, 62, 63, 64, 65, 66, 67, 82, 83, 84, 85, 86, 87, 88, 89, 90, 91, 92, 93, 94, 95, 96] (by decide +kernel) (by decide +kernel)
set_option maxRecDepth 20000 in
theorem gX13_tear_X12_tear : GoodIn wsX13_tear (wsV RX13 186 RX12 yX12_tear wsX12_tear) := goodIn_app (goodIn_of _ (by decide +kernel)) ggX13_tear_X12_tear
theorem dX13_tear_0 : decode cX13_tear 0 = .ok (.aload_n 0, 1) := by decide +kernel
theorem dX13_tear_1 : decode cX13_tear 1 = .ok (.aload_n 0, 1) := by decide +kernel
theorem dX13_tear_2 : decode cX13_tear 2 = .ok (.getfield 166, 3) := by decide +kernel
theorem dX13_tear_5 : decode cX13_tear 5 = .ok (.ifnull 17, 3) := by decide +kernel
theorem dX13_tear_8 : decode cX13_tear 8 = .ok (.aload_n 0, 1) := by decide +kernel
theorem dX13_tear_9 : decode cX13_tear 9 = .ok (.getfield 166, 3) := by decide +kernel
theorem dX13_tear_12 : decode cX13_tear 12 = .ok (.invokevirtual 170, 3) := by decide +kernel
theorem dX13_tear_15 : decode cX13_tear 15 = .ok (.ifCond .ne 7, 3) := by decide +kernel
theorem dX13_tear_18 : decode cX13_tear 18 = .ok (.iconst 1, 1) := by decide +kernel
theorem dX13_tear_19 : decode cX13_tear 19 = .ok (.goto 4, 3) := by decide +kernel
theorem dX13_tear_22 : decode cX13_tear 22 = .ok (.iconst 0, 1) := by decide +kernel
theorem dX13_tear_23 : decode cX13_tear 23 = .ok (.iconst 1, 1) := by decide +kernel
theorem dX13_tear_24 : decode cX13_tear 24 = .ok (.iconst 1, 1) := by decide +kernel
theorem dX13_tear_25 : decode cX13_tear 25 = .ok (.invokevirtual 55, 3) := by decide +kernel
theorem dX13_tear_28 : decode cX13_tear 28 = .ok (.ifCond .eq 13, 3) := by decide +kernel
theorem dX13_tear_31 : decode cX13_tear 31 = .ok (.aload_n 0, 1) := by decide +kernel
theorem dX13_tear_32 : decode cX13_tear 32 = .ok (.getfield 166, 3) := by decide +kernel
theorem dX13_tear_35 : decode cX13_tear 35 = .ok (.invokevirtual 186, 3) := by decide +kernel
theorem dX13_tear_38 : decode cX13_tear 38 = .ok (.goto 4, 3) := by decide +kernel
theorem dX13_tear_41 : decode cX13_tear 41 = .ok (.iconst 0, 1) := by decide +kernel
theorem dX13_tear_42 : decode cX13_tear 42 = .ok (.ireturn, 1) := by decide +kernel
set_option maxRecDepth 20000 in
theorem ggX13_job_X13_in : GoodIn wsX13_job wsX13_in := goodIn_r _ [6] (by decide +kernel) (by decide +kernel)
set_option maxRecDepth 20000 in
theorem gX13_job_X13_in : GoodIn wsX13_job (va_wsS RX13 7 yX13_in wsX13_in) := goodIn_app (goodIn_of _ (by decide +kernel)) ggX13_job_X13_in
set_option maxRecDepth 20000 in
theorem ggX13_job_X13_passes : GoodIn wsX13_job wsX13_passes := goodIn_r _ [10, 11, 56, 57, 58, 59, 60, 61, 62, 63, 64, 65, 66, 67, 68, 69] (by decide +kernel) (by decide +kernel)
set_option maxRecDepth 20000 in
theorem gX13_job_X13_passes : GoodIn wsX13_job (wsV RX13 55 RX13 yX13_passes wsX13_passes) := goodIn_app (goodIn_of _ (by decide +kernel)) ggX13_job_X13_passes
set_option maxRecDepth 20000 in
theorem ggX13_job_X12_isOver : GoodIn wsX13_job wsX12_isOver := goodIn_r _ [16, 17, 18, 19, 15, 20, 21, 22, 23, 24, 25, 26, 27, 28, 29, 30, 31, 32, 33, 34, 35, 36, 37, 38, 39, 40, 41, 42, 43, 44, 45, 70, 71, 72, 73, 74, 75, 76, 77, 78, 79, 80, 81, 82, 83, 84] (by decide +kernel) (by decide +kernel)
set_option maxRecDepth 20000 in
theorem gX13_job_X12_isOver : GoodIn wsX13_job (wsV RX13 170 RX12 yX12_isOver wsX12_isOver) := goodIn_app (goodIn_of _ (by decide +kernel)) ggX13_job_X12_isOver
set_option maxRecDepth 20000 in
theorem ggX13_job_X12_runs : GoodIn wsX13_job wsX12_runs := goodIn_r _ [49, 50, 51, 21, 22, 52, 53, 54, 55, 23, 24, 25, 26, 27, 28, 29, 30, 31, 32, 33, 34, 35, 36, 37, 38, 39, 40, 41, 42, 43, 44, 45, 17, 18, 19, 15, 20, 70, 71, 72, 73, 74, 75, 76, 77, 78, 79, 80, 81, 82, 83, 84] (by decide +kernel) (by decide +kernel)
set_option maxRecDepth 20000 in
theorem gX13_job_X12_runs : GoodIn wsX13_job (wsV RX13 189 RX12 yX12_runs wsX12_runs) := goodIn_app (goodIn_of _ (by decide +kernel)) ggX13_job_X12_runs
theorem dX13_job_0 : decode cX13_job 0 = .ok (.aload_n 0, 1) := by decide +kernel
theorem dX13_job_1 : decode cX13_job 1 = .ok (.iload_n 1, 1) := by decide +kernel
theorem dX13_job_2 : decode cX13_job 2 = .ok (.iconst 0, 1) := by decide +kernel
theorem dX13_job_3 : decode cX13_job 3 = .ok (.bipush 7, 2) := by decide +kernel
theorem dX13_job_5 : decode cX13_job 5 = .ok (.invokestatic 7, 3) := by decide +kernel
theorem dX13_job_8 : decode cX13_job 8 = .ok (.aload_n 0, 1) := by decide +kernel
theorem dX13_job_9 : decode cX13_job 9 = .ok (.getfield 166, 3) := by decide +kernel
theorem dX13_job_12 : decode cX13_job 12 = .ok (.ifnull 7, 3) := by decide +kernel
theorem dX13_job_15 : decode cX13_job 15 = .ok (.iconst 1, 1) := by decide +kernel
theorem dX13_job_16 : decode cX13_job 16 = .ok (.goto 4, 3) := by decide +kernel
theorem dX13_job_19 : decode cX13_job 19 = .ok (.iconst 0, 1) := by decide +kernel
theorem dX13_job_20 : decode cX13_job 20 = .ok (.iconst 1, 1) := by decide +kernel
theorem dX13_job_21 : decode cX13_job 21 = .ok (.invokevirtual 55, 3) := by decide +kernel
theorem dX13_job_24 : decode cX13_job 24 = .ok (.ifCond .ne 5, 3) := by decide +kernel
theorem dX13_job_27 : decode cX13_job 27 = .ok (.iconst 0, 1) := by decide +kernel
theorem dX13_job_28 : decode cX13_job 28 = .ok (.ireturn, 1) := by decide +kernel
theorem dX13_job_29 : decode cX13_job 29 = .ok (.bipush 8, 2) := by decide +kernel
theorem dX13_job_31 : decode cX13_job 31 = .ok (.newarray .int, 2) := by decide +kernel
theorem dX13_job_33 : decode cX13_job 33 = .ok (.dup, 1) := by decide +kernel
theorem dX13_job_34 : decode cX13_job 34 = .ok (.iconst 0, 1) := by decide +kernel
theorem dX13_job_35 : decode cX13_job 35 = .ok (.aload_n 0, 1) := by decide +kernel
theorem dX13_job_36 : decode cX13_job 36 = .ok (.getfield 166, 3) := by decide +kernel
theorem dX13_job_39 : decode cX13_job 39 = .ok (.getfield 173, 3) := by decide +kernel
theorem dX13_job_42 : decode cX13_job 42 = .ok (.iastore, 1) := by decide +kernel
theorem dX13_job_43 : decode cX13_job 43 = .ok (.dup, 1) := by decide +kernel
theorem dX13_job_44 : decode cX13_job 44 = .ok (.iconst 1, 1) := by decide +kernel
theorem dX13_job_45 : decode cX13_job 45 = .ok (.aload_n 0, 1) := by decide +kernel
theorem dX13_job_46 : decode cX13_job 46 = .ok (.getfield 166, 3) := by decide +kernel
theorem dX13_job_49 : decode cX13_job 49 = .ok (.invokevirtual 170, 3) := by decide +kernel
theorem dX13_job_52 : decode cX13_job 52 = .ok (.ifCond .eq 7, 3) := by decide +kernel
theorem dX13_job_55 : decode cX13_job 55 = .ok (.iconst 1, 1) := by decide +kernel
theorem dX13_job_56 : decode cX13_job 56 = .ok (.goto 4, 3) := by decide +kernel
theorem dX13_job_59 : decode cX13_job 59 = .ok (.iconst 0, 1) := by decide +kernel
theorem dX13_job_60 : decode cX13_job 60 = .ok (.iastore, 1) := by decide +kernel
theorem dX13_job_61 : decode cX13_job 61 = .ok (.dup, 1) := by decide +kernel
theorem dX13_job_62 : decode cX13_job 62 = .ok (.iconst 2, 1) := by decide +kernel
theorem dX13_job_63 : decode cX13_job 63 = .ok (.aload_n 0, 1) := by decide +kernel
theorem dX13_job_64 : decode cX13_job 64 = .ok (.getfield 166, 3) := by decide +kernel
theorem dX13_job_67 : decode cX13_job 67 = .ok (.invokevirtual 189, 3) := by decide +kernel
theorem dX13_job_70 : decode cX13_job 70 = .ok (.iastore, 1) := by decide +kernel
theorem dX13_job_71 : decode cX13_job 71 = .ok (.dup, 1) := by decide +kernel
theorem dX13_job_72 : decode cX13_job 72 = .ok (.iconst 3, 1) := by decide +kernel
theorem dX13_job_73 : decode cX13_job 73 = .ok (.aload_n 0, 1) := by decide +kernel
theorem dX13_job_74 : decode cX13_job 74 = .ok (.getfield 166, 3) := by decide +kernel
theorem dX13_job_77 : decode cX13_job 77 = .ok (.getfield 158, 3) := by decide +kernel
theorem dX13_job_80 : decode cX13_job 80 = .ok (.iastore, 1) := by decide +kernel
theorem dX13_job_81 : decode cX13_job 81 = .ok (.dup, 1) := by decide +kernel
theorem dX13_job_82 : decode cX13_job 82 = .ok (.iconst 4, 1) := by decide +kernel
theorem dX13_job_83 : decode cX13_job 83 = .ok (.aload_n 0, 1) := by decide +kernel
theorem dX13_job_84 : decode cX13_job 84 = .ok (.getfield 166, 3) := by decide +kernel
theorem dX13_job_87 : decode cX13_job 87 = .ok (.getfield 160, 3) := by decide +kernel
theorem dX13_job_90 : decode cX13_job 90 = .ok (.iastore, 1) := by decide +kernel
theorem dX13_job_91 : decode cX13_job 91 = .ok (.dup, 1) := by decide +kernel
theorem dX13_job_92 : decode cX13_job 92 = .ok (.iconst 5, 1) := by decide +kernel
theorem dX13_job_93 : decode cX13_job 93 = .ok (.aload_n 0, 1) := by decide +kernel
theorem dX13_job_94 : decode cX13_job 94 = .ok (.getfield 166, 3) := by decide +kernel
theorem dX13_job_97 : decode cX13_job 97 = .ok (.getfield 152, 3) := by decide +kernel
theorem dX13_job_100 : decode cX13_job 100 = .ok (.iastore, 1) := by decide +kernel
theorem dX13_job_101 : decode cX13_job 101 = .ok (.dup, 1) := by decide +kernel
theorem dX13_job_102 : decode cX13_job 102 = .ok (.bipush 6, 2) := by decide +kernel
theorem dX13_job_104 : decode cX13_job 104 = .ok (.aload_n 0, 1) := by decide +kernel
theorem dX13_job_105 : decode cX13_job 105 = .ok (.getfield 166, 3) := by decide +kernel
theorem dX13_job_108 : decode cX13_job 108 = .ok (.getfield 192, 3) := by decide +kernel
theorem dX13_job_111 : decode cX13_job 111 = .ok (.iastore, 1) := by decide +kernel
theorem dX13_job_112 : decode cX13_job 112 = .ok (.dup, 1) := by decide +kernel
theorem dX13_job_113 : decode cX13_job 113 = .ok (.bipush 7, 2) := by decide +kernel
theorem dX13_job_115 : decode cX13_job 115 = .ok (.aload_n 0, 1) := by decide +kernel
theorem dX13_job_116 : decode cX13_job 116 = .ok (.getfield 166, 3) := by decide +kernel
theorem dX13_job_119 : decode cX13_job 119 = .ok (.getfield 195, 3) := by decide +kernel
theorem dX13_job_122 : decode cX13_job 122 = .ok (.iastore, 1) := by decide +kernel
theorem dX13_job_123 : decode cX13_job 123 = .ok (.astore_n 2, 1) := by decide +kernel
theorem dX13_job_124 : decode cX13_job 124 = .ok (.aload_n 2, 1) := by decide +kernel
theorem dX13_job_125 : decode cX13_job 125 = .ok (.iload_n 1, 1) := by decide +kernel
theorem dX13_job_126 : decode cX13_job 126 = .ok (.iaload, 1) := by decide +kernel
theorem dX13_job_127 : decode cX13_job 127 = .ok (.ireturn, 1) := by decide +kernel
set_option maxRecDepth 20000 in
theorem ggX13_sort_X13_isTape : GoodIn wsX13_sort wsX13_isTape := goodIn_r _ [9, 10, 11, 8, 12] (by decide +kernel) (by decide +kernel)
set_option maxRecDepth 20000 in
theorem gX13_sort_X13_isTape : GoodIn wsX13_sort (va_wsS RX13 44 yX13_isTape wsX13_isTape) := goodIn_app (goodIn_of _ (by decide +kernel)) ggX13_sort_X13_isTape
set_option maxRecDepth 20000 in
theorem ggX13_sort_X13_passes : GoodIn wsX13_sort wsX13_passes := goodIn_r _ [16, 17, 256, 257, 258, 259, 260, 261, 262, 263, 264, 265, 266, 267, 268, 269] (by decide +kernel) (by decide +kernel)
set_option maxRecDepth 20000 in
theorem gX13_sort_X13_passes : GoodIn wsX13_sort (wsV RX13 55 RX13 yX13_passes wsX13_passes) := goodIn_app (goodIn_of _ (by decide +kernel)) ggX13_sort_X13_passes
set_option maxRecDepth 20000 in
theorem ggX13_sort_X12_init : GoodIn wsX13_sort wsX12_init := goodIn_r _ [20, 21, 22, 23, 24, 25, 26, 27, 28, 29, 30, 31, 32, 33, 34, 35, 36, 37, 38, 39, 40, 41, 42, 43, 44, 45, 46, 47, 48, 49, 8, 50, 51, 52, 53, 54, 55, 56, 57, 58, 59, 60, 61, 62, 63, 64, 65, 66, 67, 68, 69, 70, 71, 72, 73, 74, 75, 76, 77, 78, 79, 80, 81, 82, 83, 84, 85, 86, 87, 88, 89, 90, 91, 92, 93, 94, 95, 96, 97, 98, 99, 100, 101, 102, 103, 104, 105, 106, 107, 108, 109, 110, 111, 112, 113, 114, 115, 116, 117, 118, 119, 120, 121, 122, 123, 124, 125, 126, 127, 128, 129, 130, 131, 132, 133, 134, 135, 136, 137, 138, 139, 140, 141, 142, 143, 144, 145, 146, 147, 148, 149, 150, 151, 152, 153, 154, 155, 156, 157, 158, 159, 160, 161, 162, 163, 164, 165, 166, 167, 168, 169, 170, 171, 172, 173, 174, 175, 176, 177, 178, 179, 180, 181, 182, 183, 184, 185, 186, 187, 188, 3, 189, 190, 191, 192, 193, 194, 195, 196, 197, 198, 244, 245, 246, 247, 248, 249, 250, 251, 252, 253, 254, 255, 270, 271, 272, 273, 256, 257, 258, 259, 260, 261, 262, 263, 264, 265, 266, 267, 268, 269] (by decide +kernel) (by decide +kernel)
set_option maxRecDepth 20000 in
theorem gX13_sort_X12_init : GoodIn wsX13_sort (wsX12_init) := ggX13_sort_X12_init
set_option maxRecDepth 20000 in
theorem ggX13_sort_X12_goes : GoodIn wsX13_sort wsX12_goes := goodIn_r _ [202, 203, 204, 205, 3, 206, 207, 208, 209, 210, 30, 211, 195, 139, 140, 29, 141, 86, 197, 143, 144, 145, 146, 147, 148, 149, 150, 151, 152, 153, 154, 155, 156, 157, 38, 212, 213, 214, 215, 191, 25, 21, 26, 31, 216, 33, 217, 27, 28, 218, 219, 220, 221, 222, 223, 58, 59, 60, 224, 100, 101, 34, 35, 36, 37, 39, 40, 41, 42, 43, 44, 45, 46, 47, 48, 23, 24, 198, 81, 82, 83, 84, 85, 87, 88, 89, 90, 91, 92, 93, 94, 95, 96, 97, 98, 99, 102, 103, 104, 105, 106, 107, 108, 109, 110, 111, 112, 113, 114, 115, 116, 117, 118, 119, 120, 121, 122, 123, 124, 125, 126, 127, 128, 129, 225, 226, 227, 183, 8, 184, 185, 162, 163, 164, 165, 166, 228, 229, 230, 231, 232, 233, 234, 235, 236, 237, 238, 239, 244, 245, 246, 247, 248, 249, 250, 251, 252, 253, 254, 255, 270, 271, 272, 256, 257, 258, 259, 260, 261, 262, 263, 264, 265, 266, 267, 268, 269] (by decide +kernel) (by decide +kernel)
set_option maxRecDepth 20000 in
theorem gX13_sort_X12_goes : GoodIn wsX13_sort (wsV RX13 155 RX12 yX12_goes wsX12_goes) := goodIn_app (goodIn_of _ (by decide +kernel)) ggX13_sort_X12_goes
set_option maxRecDepth 20000 in
theorem ggX13_sort_X12_result : GoodIn wsX13_sort wsX12_result := goodIn_r _ [243, 30, 211, 191, 25, 195, 139, 140, 29, 141, 86, 197, 143, 144, 145, 146, 147, 148, 149, 150, 151, 152, 153, 154, 155, 156, 157, 38, 196, 131, 132, 133, 244, 245, 246, 247, 248, 249, 250, 251, 252, 253, 254, 255, 270, 271, 272] (by decide +kernel) (by decide +kernel)
set_option maxRecDepth 20000 in
theorem gX13_sort_X12_result : GoodIn wsX13_sort (wsV RX13 176 RX12 yX12_result wsX12_result) := goodIn_app (goodIn_of _ (by decide +kernel)) ggX13_sort_X12_result
theorem dX13_sort_0 : decode cX13_sort 0 = .ok (.aload_n 0, 1) := by decide +kernel
theorem dX13_sort_1 : decode cX13_sort 1 = .ok (.iload_n 1, 1) := by decide +kernel
theorem dX13_sort_2 : decode cX13_sort 2 = .ok (.invokestatic 44, 3) := by decide +kernel
theorem dX13_sort_5 : decode cX13_sort 5 = .ok (.ifCond .eq 14, 3) := by decide +kernel
theorem dX13_sort_8 : decode cX13_sort 8 = .ok (.iload_n 2, 1) := by decide +kernel
theorem dX13_sort_9 : decode cX13_sort 9 = .ok (.invokestatic 44, 3) := by decide +kernel
theorem dX13_sort_12 : decode cX13_sort 12 = .ok (.ifCond .eq 7, 3) := by decide +kernel
theorem dX13_sort_15 : decode cX13_sort 15 = .ok (.iconst 1, 1) := by decide +kernel
theorem dX13_sort_16 : decode cX13_sort 16 = .ok (.goto 4, 3) := by decide +kernel
theorem dX13_sort_19 : decode cX13_sort 19 = .ok (.iconst 0, 1) := by decide +kernel
theorem dX13_sort_20 : decode cX13_sort 20 = .ok (.iconst 1, 1) := by decide +kernel
theorem dX13_sort_21 : decode cX13_sort 21 = .ok (.iconst 1, 1) := by decide +kernel
theorem dX13_sort_22 : decode cX13_sort 22 = .ok (.invokevirtual 55, 3) := by decide +kernel
theorem dX13_sort_25 : decode cX13_sort 25 = .ok (.ifCond .ne 5, 3) := by decide +kernel
theorem dX13_sort_28 : decode cX13_sort 28 = .ok (.iconst 0, 1) := by decide +kernel
theorem dX13_sort_29 : decode cX13_sort 29 = .ok (.ireturn, 1) := by decide +kernel
theorem dX13_sort_30 : decode cX13_sort 30 = .ok (.new 147, 3) := by decide +kernel
theorem dX13_sort_33 : decode cX13_sort 33 = .ok (.dup, 1) := by decide +kernel
theorem dX13_sort_34 : decode cX13_sort 34 = .ok (.aload_n 0, 1) := by decide +kernel
theorem dX13_sort_35 : decode cX13_sort 35 = .ok (.aload_n 0, 1) := by decide +kernel
theorem dX13_sort_36 : decode cX13_sort 36 = .ok (.getfield 29, 3) := by decide +kernel
theorem dX13_sort_39 : decode cX13_sort 39 = .ok (.iload_n 1, 1) := by decide +kernel
theorem dX13_sort_40 : decode cX13_sort 40 = .ok (.aaload, 1) := by decide +kernel
theorem dX13_sort_41 : decode cX13_sort 41 = .ok (.iload_n 2, 1) := by decide +kernel
theorem dX13_sort_42 : decode cX13_sort 42 = .ok (.aload_n 0, 1) := by decide +kernel
theorem dX13_sort_43 : decode cX13_sort 43 = .ok (.getfield 35, 3) := by decide +kernel
theorem dX13_sort_46 : decode cX13_sort 46 = .ok (.invokespecial 149, 3) := by decide +kernel
theorem dX13_sort_49 : decode cX13_sort 49 = .ok (.astore_n 3, 1) := by decide +kernel
theorem dX13_sort_50 : decode cX13_sort 50 = .ok (.aload_n 3, 1) := by decide +kernel
theorem dX13_sort_51 : decode cX13_sort 51 = .ok (.invokevirtual 155, 3) := by decide +kernel
theorem dX13_sort_54 : decode cX13_sort 54 = .ok (.aload_n 0, 1) := by decide +kernel
theorem dX13_sort_55 : decode cX13_sort 55 = .ok (.getfield 29, 3) := by decide +kernel
theorem dX13_sort_58 : decode cX13_sort 58 = .ok (.iload_n 2, 1) := by decide +kernel
theorem dX13_sort_59 : decode cX13_sort 59 = .ok (.aload_n 3, 1) := by decide +kernel
theorem dX13_sort_60 : decode cX13_sort 60 = .ok (.invokevirtual 176, 3) := by decide +kernel
theorem dX13_sort_63 : decode cX13_sort 63 = .ok (.aastore, 1) := by decide +kernel
theorem dX13_sort_64 : decode cX13_sort 64 = .ok (.aload_n 3, 1) := by decide +kernel
theorem dX13_sort_65 : decode cX13_sort 65 = .ok (.getfield 152, 3) := by decide +kernel
theorem dX13_sort_68 : decode cX13_sort 68 = .ok (.ireturn, 1) := by decide +kernel
theorem dX13_hasKey_0 : decode cX13_hasKey 0 = .ok (.iconst 0, 1) := by decide +kernel
theorem dX13_hasKey_1 : decode cX13_hasKey 1 = .ok (.istore_n 3, 1) := by decide +kernel
theorem dX13_hasKey_2 : decode cX13_hasKey 2 = .ok (.iload_n 3, 1) := by decide +kernel
theorem dX13_hasKey_3 : decode cX13_hasKey 3 = .ok (.aload_n 1, 1) := by decide +kernel
theorem dX13_hasKey_4 : decode cX13_hasKey 4 = .ok (.arraylength, 1) := by decide +kernel
theorem dX13_hasKey_5 : decode cX13_hasKey 5 = .ok (.if_icmp .ge 23, 3) := by decide +kernel
theorem dX13_hasKey_8 : decode cX13_hasKey 8 = .ok (.aload_n 0, 1) := by decide +kernel
theorem dX13_hasKey_9 : decode cX13_hasKey 9 = .ok (.getfield 11, 3) := by decide +kernel
theorem dX13_hasKey_12 : decode cX13_hasKey 12 = .ok (.aload_n 1, 1) := by decide +kernel
theorem dX13_hasKey_13 : decode cX13_hasKey 13 = .ok (.iload_n 3, 1) := by decide +kernel
theorem dX13_hasKey_14 : decode cX13_hasKey 14 = .ok (.iaload, 1) := by decide +kernel
theorem dX13_hasKey_15 : decode cX13_hasKey 15 = .ok (.iaload, 1) := by decide +kernel
theorem dX13_hasKey_16 : decode cX13_hasKey 16 = .ok (.iload_n 2, 1) := by decide +kernel
theorem dX13_hasKey_17 : decode cX13_hasKey 17 = .ok (.if_icmp .ne 5, 3) := by decide +kernel
theorem dX13_hasKey_20 : decode cX13_hasKey 20 = .ok (.iconst 1, 1) := by decide +kernel
theorem dX13_hasKey_21 : decode cX13_hasKey 21 = .ok (.ireturn, 1) := by decide +kernel
theorem dX13_hasKey_22 : decode cX13_hasKey 22 = .ok (.iinc 3 1, 3) := by decide +kernel
theorem dX13_hasKey_25 : decode cX13_hasKey 25 = .ok (.goto (-23), 3) := by decide +kernel
theorem dX13_hasKey_28 : decode cX13_hasKey 28 = .ok (.iconst 0, 1) := by decide +kernel
theorem dX13_hasKey_29 : decode cX13_hasKey 29 = .ok (.ireturn, 1) := by decide +kernel
set_option maxRecDepth 20000 in
theorem ggX13_together_Jx4a65c_init_da8c8 : GoodIn wsX13_together wsJx4a65c_init_da8c8 := goodIn_r _ [7, 8, 9, 10, 11, 12, 13, 14, 15, 16, 17, 18, 19, 20, 21, 134, 135, 136] (by decide +kernel) (by decide +kernel)
set_option maxRecDepth 20000 in
theorem gX13_together_Jx4a65c_init_da8c8 : GoodIn wsX13_together (wsJx4a65c_init_da8c8) := ggX13_together_Jx4a65c_init_da8c8
set_option maxRecDepth 20000 in
theorem ggX13_together_X13_hasKey : GoodIn wsX13_together wsX13_hasKey := goodIn_r _ [26, 4, 137, 138, 139, 140, 141, 142, 143, 144, 145, 146, 147, 148, 149, 150] (by decide +kernel) (by decide +kernel)
set_option maxRecDepth 20000 in
theorem gX13_together_X13_hasKey : GoodIn wsX13_together (wsV RX13 198 RX13 yX13_hasKey wsX13_hasKey) := goodIn_app (goodIn_of _ (by decide +kernel)) ggX13_together_X13_hasKey
set_option maxRecDepth 20000 in
theorem ggX13_together_J6_valueOf_2dffe : GoodIn wsX13_together wsJ6_valueOf_2dffe := goodIn_r _ [30, 31, 32, 33, 34, 29, 35, 36, 37, 38, 39, 40, 41, 42, 43, 20, 21, 151] (by decide +kernel) (by decide +kernel)
set_option maxRecDepth 20000 in
theorem gX13_together_J6_valueOf_2dffe : GoodIn wsX13_together (va_wsS RX13 119 yJ6_valueOf_2dffe wsJ6_valueOf_2dffe) := goodIn_app (goodIn_of _ (by decide +kernel)) ggX13_together_J6_valueOf_2dffe
set_option maxRecDepth 20000 in
theorem ggX13_together_Jx4a65c_add_9ea2d : GoodIn wsX13_together wsJx4a65c_add_9ea2d := goodIn_r _ [47, 48, 49, 9, 50, 51, 52, 53, 3, 54, 55, 56, 57, 58, 59, 60, 61, 62, 8, 63, 64, 65, 66, 67, 68, 69, 70, 71, 72, 73, 74, 75, 76, 77, 78, 79, 80, 81, 82, 83, 84, 85, 86, 87, 88, 89, 90, 91, 92, 93, 94, 95, 96, 134, 135, 136] (by decide +kernel) (by decide +kernel)
set_option maxRecDepth 20000 in
theorem gX13_together_Jx4a65c_add_9ea2d_f109Jx4a65c : GoodIn wsX13_together (va_wsF RX13 109 RJx4a65c ⟨"java/util/List", "add", "(Ljava/lang/Object;)Z"⟩ yJx4a65c_add_9ea2d wsJx4a65c_add_9ea2d) := goodIn_app (goodIn_of _ (by decide +kernel)) ggX13_together_Jx4a65c_add_9ea2d
set_option maxRecDepth 20000 in
theorem ggX13_together_X13_rowOf : GoodIn wsX13_together wsX13_rowOf := goodIn_r _ [99, 100, 101, 102, 103, 104, 3, 105, 50, 106, 107, 108, 109, 110, 111, 112, 113, 114, 115, 116, 117, 118, 119, 120, 121, 9, 122, 123, 124, 29, 125, 38, 134, 135, 136, 151] (by decide +kernel) (by decide +kernel)
set_option maxRecDepth 20000 in
theorem gX13_together_X13_rowOf : GoodIn wsX13_together (va_wsS RX13 134 yX13_rowOf wsX13_rowOf) := goodIn_app (goodIn_of _ (by decide +kernel)) ggX13_together_X13_rowOf
set_option maxRecDepth 20000 in
theorem ggX13_together_X13_inserts : GoodIn wsX13_together wsX13_inserts := goodIn_r _ [129, 130, 131, 132, 25, 133, 4, 137, 138, 139, 140, 141, 142, 143, 144, 145, 146, 147, 148, 149, 150] (by decide +kernel) (by decide +kernel)
set_option maxRecDepth 20000 in
theorem gX13_together_X13_inserts : GoodIn wsX13_together (wsV RX13 105 RX13 yX13_inserts wsX13_inserts) := goodIn_app (goodIn_of _ (by decide +kernel)) ggX13_together_X13_inserts
theorem dX13_together_0 : decode cX13_together 0 = .ok (.new 98, 3) := by decide +kernel
theorem dX13_together_3 : decode cX13_together 3 = .ok (.dup, 1) := by decide +kernel
theorem dX13_together_4 : decode cX13_together 4 = .ok (.invokespecial 100, 3) := by decide +kernel
theorem dX13_together_7 : decode cX13_together 7 = .ok (.astore 4, 2) := by decide +kernel
theorem dX13_together_9 : decode cX13_together 9 = .ok (.iconst 0, 1) := by decide +kernel
theorem dX13_together_10 : decode cX13_together 10 = .ok (.istore 5, 2) := by decide +kernel
theorem dX13_together_12 : decode cX13_together 12 = .ok (.iload 5, 2) := by decide +kernel
theorem dX13_together_14 : decode cX13_together 14 = .ok (.aload_n 1, 1) := by decide +kernel
theorem dX13_together_15 : decode cX13_together 15 = .ok (.arraylength, 1) := by decide +kernel
theorem dX13_together_16 : decode cX13_together 16 = .ok (.if_icmp .ge 56, 3) := by decide +kernel
theorem dX13_together_19 : decode cX13_together 19 = .ok (.iload_n 3, 1) := by decide +kernel
theorem dX13_together_20 : decode cX13_together 20 = .ok (.ifCond .eq 30, 3) := by decide +kernel
theorem dX13_together_23 : decode cX13_together 23 = .ok (.aload_n 0, 1) := by decide +kernel
theorem dX13_together_24 : decode cX13_together 24 = .ok (.aload_n 2, 1) := by decide +kernel
theorem dX13_together_25 : decode cX13_together 25 = .ok (.aload_n 0, 1) := by decide +kernel
theorem dX13_together_26 : decode cX13_together 26 = .ok (.getfield 11, 3) := by decide +kernel
theorem dX13_together_29 : decode cX13_together 29 = .ok (.aload_n 1, 1) := by decide +kernel
theorem dX13_together_30 : decode cX13_together 30 = .ok (.iload 5, 2) := by decide +kernel
theorem dX13_together_32 : decode cX13_together 32 = .ok (.iaload, 1) := by decide +kernel
theorem dX13_together_33 : decode cX13_together 33 = .ok (.iaload, 1) := by decide +kernel
theorem dX13_together_34 : decode cX13_together 34 = .ok (.invokevirtual 198, 3) := by decide +kernel
theorem dX13_together_37 : decode cX13_together 37 = .ok (.iload_n 3, 1) := by decide +kernel
theorem dX13_together_38 : decode cX13_together 38 = .ok (.iconst 1, 1) := by decide +kernel
theorem dX13_together_39 : decode cX13_together 39 = .ok (.if_icmp .ne 7, 3) := by decide +kernel
theorem dX13_together_42 : decode cX13_together 42 = .ok (.iconst 1, 1) := by decide +kernel
theorem dX13_together_43 : decode cX13_together 43 = .ok (.goto 4, 3) := by decide +kernel
theorem dX13_together_46 : decode cX13_together 46 = .ok (.iconst 0, 1) := by decide +kernel
theorem dX13_together_47 : decode cX13_together 47 = .ok (.if_icmp .ne 19, 3) := by decide +kernel
theorem dX13_together_50 : decode cX13_together 50 = .ok (.aload 4, 2) := by decide +kernel
theorem dX13_together_52 : decode cX13_together 52 = .ok (.aload_n 1, 1) := by decide +kernel
theorem dX13_together_53 : decode cX13_together 53 = .ok (.iload 5, 2) := by decide +kernel
theorem dX13_together_55 : decode cX13_together 55 = .ok (.iaload, 1) := by decide +kernel
theorem dX13_together_56 : decode cX13_together 56 = .ok (.invokestatic 119, 3) := by decide +kernel
theorem dX13_together_59 : decode cX13_together 59 = .ok (.invokeinterface 109 2, 5) := by decide +kernel
theorem dX13_together_64 : decode cX13_together 64 = .ok (.istore 6, 2) := by decide +kernel
theorem dX13_together_66 : decode cX13_together 66 = .ok (.iinc 5 1, 3) := by decide +kernel
theorem dX13_together_69 : decode cX13_together 69 = .ok (.goto (-57), 3) := by decide +kernel
theorem dX13_together_72 : decode cX13_together 72 = .ok (.iconst 0, 1) := by decide +kernel
theorem dX13_together_73 : decode cX13_together 73 = .ok (.istore 5, 2) := by decide +kernel
theorem dX13_together_75 : decode cX13_together 75 = .ok (.iload 5, 2) := by decide +kernel
theorem dX13_together_77 : decode cX13_together 77 = .ok (.aload_n 2, 1) := by decide +kernel
theorem dX13_together_78 : decode cX13_together 78 = .ok (.arraylength, 1) := by decide +kernel
theorem dX13_together_79 : decode cX13_together 79 = .ok (.if_icmp .ge 29, 3) := by decide +kernel
theorem dX13_together_82 : decode cX13_together 82 = .ok (.iload_n 3, 1) := by decide +kernel
theorem dX13_together_83 : decode cX13_together 83 = .ok (.ifCond .ne 25, 3) := by decide +kernel
theorem dX13_together_86 : decode cX13_together 86 = .ok (.aload 4, 2) := by decide +kernel
theorem dX13_together_88 : decode cX13_together 88 = .ok (.aload_n 2, 1) := by decide +kernel
theorem dX13_together_89 : decode cX13_together 89 = .ok (.iload 5, 2) := by decide +kernel
theorem dX13_together_91 : decode cX13_together 91 = .ok (.iaload, 1) := by decide +kernel
theorem dX13_together_92 : decode cX13_together 92 = .ok (.invokestatic 119, 3) := by decide +kernel
theorem dX13_together_95 : decode cX13_together 95 = .ok (.invokeinterface 109 2, 5) := by decide +kernel
theorem dX13_together_100 : decode cX13_together 100 = .ok (.istore 6, 2) := by decide +kernel
theorem dX13_together_102 : decode cX13_together 102 = .ok (.iinc 5 1, 3) := by decide +kernel
theorem dX13_together_105 : decode cX13_together 105 = .ok (.goto (-30), 3) := by decide +kernel
theorem dX13_together_108 : decode cX13_together 108 = .ok (.aload 4, 2) := by decide +kernel
theorem dX13_together_110 : decode cX13_together 110 = .ok (.invokestatic 134, 3) := by decide +kernel
theorem dX13_together_113 : decode cX13_together 113 = .ok (.astore 5, 2) := by decide +kernel
theorem dX13_together_115 : decode cX13_together 115 = .ok (.aload_n 0, 1) := by decide +kernel
theorem dX13_together_116 : decode cX13_together 116 = .ok (.aload 5, 2) := by decide +kernel
theorem dX13_together_118 : decode cX13_together 118 = .ok (.iconst 0, 1) := by decide +kernel
theorem dX13_together_119 : decode cX13_together 119 = .ok (.invokevirtual 105, 3) := by decide +kernel
theorem dX13_together_122 : decode cX13_together 122 = .ok (.aload 5, 2) := by decide +kernel
theorem dX13_together_124 : decode cX13_together 124 = .ok (.areturn, 1) := by decide +kernel
set_option maxRecDepth 20000 in
theorem ggX13_canCombine_X13_isInOrder : GoodIn wsX13_canCombine wsX13_isInOrder := goodIn_r _ [5, 6, 7, 8, 4, 9, 10, 11, 12, 13, 14, 15, 16, 17, 18, 19, 20, 21, 22, 23, 24] (by decide +kernel) (by decide +kernel)
set_option maxRecDepth 20000 in
theorem gX13_canCombine_X13_isInOrder : GoodIn wsX13_canCombine (wsV RX13 71 RX13 yX13_isInOrder wsX13_isInOrder) := goodIn_app (goodIn_of _ (by decide +kernel)) ggX13_canCombine_X13_isInOrder
theorem dX13_canCombine_0 : decode cX13_canCombine 0 = .ok (.aload_n 0, 1) := by decide +kernel
theorem dX13_canCombine_1 : decode cX13_canCombine 1 = .ok (.aload_n 1, 1) := by decide +kernel
theorem dX13_canCombine_2 : decode cX13_canCombine 2 = .ok (.iconst 0, 1) := by decide +kernel
theorem dX13_canCombine_3 : decode cX13_canCombine 3 = .ok (.invokevirtual 71, 3) := by decide +kernel
theorem dX13_canCombine_6 : decode cX13_canCombine 6 = .ok (.ifCond .eq 30, 3) := by decide +kernel
theorem dX13_canCombine_9 : decode cX13_canCombine 9 = .ok (.aload_n 0, 1) := by decide +kernel
theorem dX13_canCombine_10 : decode cX13_canCombine 10 = .ok (.aload_n 2, 1) := by decide +kernel
theorem dX13_canCombine_11 : decode cX13_canCombine 11 = .ok (.iconst 0, 1) := by decide +kernel
theorem dX13_canCombine_12 : decode cX13_canCombine 12 = .ok (.invokevirtual 71, 3) := by decide +kernel
theorem dX13_canCombine_15 : decode cX13_canCombine 15 = .ok (.ifCond .eq 21, 3) := by decide +kernel
theorem dX13_canCombine_18 : decode cX13_canCombine 18 = .ok (.iload_n 3, 1) := by decide +kernel
theorem dX13_canCombine_19 : decode cX13_canCombine 19 = .ok (.ifCond .ne 13, 3) := by decide +kernel
theorem dX13_canCombine_22 : decode cX13_canCombine 22 = .ok (.aload_n 1, 1) := by decide +kernel
theorem dX13_canCombine_23 : decode cX13_canCombine 23 = .ok (.arraylength, 1) := by decide +kernel
theorem dX13_canCombine_24 : decode cX13_canCombine 24 = .ok (.aload_n 2, 1) := by decide +kernel
theorem dX13_canCombine_25 : decode cX13_canCombine 25 = .ok (.arraylength, 1) := by decide +kernel
theorem dX13_canCombine_26 : decode cX13_canCombine 26 = .ok (.iadd, 1) := by decide +kernel
theorem dX13_canCombine_27 : decode cX13_canCombine 27 = .ok (.bipush 100, 2) := by decide +kernel
theorem dX13_canCombine_29 : decode cX13_canCombine 29 = .ok (.if_icmp .gt 7, 3) := by decide +kernel
theorem dX13_canCombine_32 : decode cX13_canCombine 32 = .ok (.iconst 1, 1) := by decide +kernel
theorem dX13_canCombine_33 : decode cX13_canCombine 33 = .ok (.goto 4, 3) := by decide +kernel
theorem dX13_canCombine_36 : decode cX13_canCombine 36 = .ok (.iconst 0, 1) := by decide +kernel
theorem dX13_canCombine_37 : decode cX13_canCombine 37 = .ok (.ireturn, 1) := by decide +kernel
set_option maxRecDepth 20000 in
theorem ggX13_combine_X13_isTape : GoodIn wsX13_combine wsX13_isTape := goodIn_r _ [5, 6, 7, 4, 8] (by decide +kernel) (by decide +kernel)
set_option maxRecDepth 20000 in
theorem gX13_combine_X13_isTape : GoodIn wsX13_combine (va_wsS RX13 44 yX13_isTape wsX13_isTape) := goodIn_app (goodIn_of _ (by decide +kernel)) ggX13_combine_X13_isTape
set_option maxRecDepth 20000 in
theorem ggX13_combine_X13_in : GoodIn wsX13_combine wsX13_in := goodIn_r _ [8] (by decide +kernel) (by decide +kernel)
set_option maxRecDepth 20000 in
theorem gX13_combine_X13_in : GoodIn wsX13_combine (va_wsS RX13 7 yX13_in wsX13_in) := goodIn_app (goodIn_of _ (by decide +kernel)) ggX13_combine_X13_in
set_option maxRecDepth 20000 in
theorem ggX13_combine_X13_canCombine : GoodIn wsX13_combine wsX13_canCombine := goodIn_r _ [12, 13, 14, 15, 4, 16, 17, 18, 19, 20, 21, 158, 159, 160, 161, 162, 163, 164, 165, 166, 167, 168, 169, 170, 171] (by decide +kernel) (by decide +kernel)
set_option maxRecDepth 20000 in
theorem gX13_combine_X13_canCombine : GoodIn wsX13_combine (wsV RX13 201 RX13 yX13_canCombine wsX13_canCombine) := goodIn_app (goodIn_of _ (by decide +kernel)) ggX13_combine_X13_canCombine
set_option maxRecDepth 20000 in
theorem ggX13_combine_X13_passes : GoodIn wsX13_combine wsX13_passes := goodIn_r _ [25, 26, 158, 159, 160, 161, 162, 163, 164, 165, 166, 167, 168, 169, 170, 171] (by decide +kernel) (by decide +kernel)
set_option maxRecDepth 20000 in
theorem gX13_combine_X13_passes : GoodIn wsX13_combine (wsV RX13 55 RX13 yX13_passes wsX13_passes) := goodIn_app (goodIn_of _ (by decide +kernel)) ggX13_combine_X13_passes
set_option maxRecDepth 20000 in
theorem ggX13_combine_X13_together : GoodIn wsX13_combine wsX13_together := goodIn_r _ [30, 31, 32, 33, 21, 34, 35, 36, 37, 38, 39, 40, 41, 42, 43, 44, 45, 46, 47, 48, 49, 50, 51, 52, 53, 4, 54, 55, 56, 57, 58, 59, 60, 61, 62, 63, 64, 65, 66, 67, 68, 69, 70, 71, 72, 73, 74, 75, 76, 77, 78, 79, 80, 81, 82, 83, 84, 85, 86, 87, 88, 89, 90, 91, 92, 93, 94, 95, 96, 97, 98, 99, 100, 101, 102, 103, 104, 105, 106, 107, 108, 109, 110, 111, 112, 113, 114, 115, 116, 117, 118, 119, 120, 121, 122, 123, 124, 125, 126, 127, 128, 129, 130, 131, 132, 133, 134, 135, 136, 137, 138, 139, 140, 141, 142, 143, 144, 145, 146, 147, 148, 149, 150, 151, 152, 153, 154, 155, 156, 157, 17, 18, 19, 20, 172, 173, 174, 158, 159, 160, 161, 162, 163, 164, 165, 166, 167, 168, 169, 170, 171, 175] (by decide +kernel) (by decide +kernel)
set_option maxRecDepth 20000 in
theorem gX13_combine_X13_together : GoodIn wsX13_combine (wsV RX13 205 RX13 yX13_together wsX13_together) := goodIn_app (goodIn_of _ (by decide +kernel)) ggX13_combine_X13_together
theorem dX13_combine_0 : decode cX13_combine 0 = .ok (.iload_n 1, 1) := by decide +kernel
theorem dX13_combine_1 : decode cX13_combine 1 = .ok (.invokestatic 44, 3) := by decide +kernel
theorem dX13_combine_4 : decode cX13_combine 4 = .ok (.ifCond .eq 21, 3) := by decide +kernel
theorem dX13_combine_7 : decode cX13_combine 7 = .ok (.iload_n 2, 1) := by decide +kernel
theorem dX13_combine_8 : decode cX13_combine 8 = .ok (.invokestatic 44, 3) := by decide +kernel
theorem dX13_combine_11 : decode cX13_combine 11 = .ok (.ifCond .eq 14, 3) := by decide +kernel
theorem dX13_combine_14 : decode cX13_combine 14 = .ok (.iload_n 3, 1) := by decide +kernel
theorem dX13_combine_15 : decode cX13_combine 15 = .ok (.invokestatic 44, 3) := by decide +kernel
theorem dX13_combine_18 : decode cX13_combine 18 = .ok (.ifCond .eq 7, 3) := by decide +kernel
theorem dX13_combine_21 : decode cX13_combine 21 = .ok (.iconst 1, 1) := by decide +kernel
theorem dX13_combine_22 : decode cX13_combine 22 = .ok (.goto 4, 3) := by decide +kernel
theorem dX13_combine_25 : decode cX13_combine 25 = .ok (.iconst 0, 1) := by decide +kernel
theorem dX13_combine_26 : decode cX13_combine 26 = .ok (.istore 5, 2) := by decide +kernel
theorem dX13_combine_28 : decode cX13_combine 28 = .ok (.aload_n 0, 1) := by decide +kernel
theorem dX13_combine_29 : decode cX13_combine 29 = .ok (.iload 5, 2) := by decide +kernel
theorem dX13_combine_31 : decode cX13_combine 31 = .ok (.iload 4, 2) := by decide +kernel
theorem dX13_combine_33 : decode cX13_combine 33 = .ok (.iconst 0, 1) := by decide +kernel
theorem dX13_combine_34 : decode cX13_combine 34 = .ok (.iconst 2, 1) := by decide +kernel
theorem dX13_combine_35 : decode cX13_combine 35 = .ok (.invokestatic 7, 3) := by decide +kernel
theorem dX13_combine_38 : decode cX13_combine 38 = .ok (.iload 5, 2) := by decide +kernel
theorem dX13_combine_40 : decode cX13_combine 40 = .ok (.ifCond .eq 28, 3) := by decide +kernel
theorem dX13_combine_43 : decode cX13_combine 43 = .ok (.aload_n 0, 1) := by decide +kernel
theorem dX13_combine_44 : decode cX13_combine 44 = .ok (.aload_n 0, 1) := by decide +kernel
theorem dX13_combine_45 : decode cX13_combine 45 = .ok (.getfield 29, 3) := by decide +kernel
theorem dX13_combine_48 : decode cX13_combine 48 = .ok (.iload_n 1, 1) := by decide +kernel
theorem dX13_combine_49 : decode cX13_combine 49 = .ok (.aaload, 1) := by decide +kernel
theorem dX13_combine_50 : decode cX13_combine 50 = .ok (.aload_n 0, 1) := by decide +kernel
theorem dX13_combine_51 : decode cX13_combine 51 = .ok (.getfield 29, 3) := by decide +kernel
theorem dX13_combine_54 : decode cX13_combine 54 = .ok (.iload_n 2, 1) := by decide +kernel
theorem dX13_combine_55 : decode cX13_combine 55 = .ok (.aaload, 1) := by decide +kernel
theorem dX13_combine_56 : decode cX13_combine 56 = .ok (.iload 4, 2) := by decide +kernel
theorem dX13_combine_58 : decode cX13_combine 58 = .ok (.invokevirtual 201, 3) := by decide +kernel
theorem dX13_combine_61 : decode cX13_combine 61 = .ok (.ifCond .eq 7, 3) := by decide +kernel
theorem dX13_combine_64 : decode cX13_combine 64 = .ok (.iconst 1, 1) := by decide +kernel
theorem dX13_combine_65 : decode cX13_combine 65 = .ok (.goto 4, 3) := by decide +kernel
theorem dX13_combine_68 : decode cX13_combine 68 = .ok (.iconst 0, 1) := by decide +kernel
theorem dX13_combine_69 : decode cX13_combine 69 = .ok (.invokevirtual 55, 3) := by decide +kernel
theorem dX13_combine_72 : decode cX13_combine 72 = .ok (.ifCond .ne 5, 3) := by decide +kernel
theorem dX13_combine_75 : decode cX13_combine 75 = .ok (.iconst 0, 1) := by decide +kernel
theorem dX13_combine_76 : decode cX13_combine 76 = .ok (.ireturn, 1) := by decide +kernel
theorem dX13_combine_77 : decode cX13_combine 77 = .ok (.aload_n 0, 1) := by decide +kernel
theorem dX13_combine_78 : decode cX13_combine 78 = .ok (.getfield 29, 3) := by decide +kernel
theorem dX13_combine_81 : decode cX13_combine 81 = .ok (.iload_n 3, 1) := by decide +kernel
theorem dX13_combine_82 : decode cX13_combine 82 = .ok (.aload_n 0, 1) := by decide +kernel
theorem dX13_combine_83 : decode cX13_combine 83 = .ok (.aload_n 0, 1) := by decide +kernel
theorem dX13_combine_84 : decode cX13_combine 84 = .ok (.getfield 29, 3) := by decide +kernel
theorem dX13_combine_87 : decode cX13_combine 87 = .ok (.iload_n 1, 1) := by decide +kernel
theorem dX13_combine_88 : decode cX13_combine 88 = .ok (.aaload, 1) := by decide +kernel
theorem dX13_combine_89 : decode cX13_combine 89 = .ok (.aload_n 0, 1) := by decide +kernel
theorem dX13_combine_90 : decode cX13_combine 90 = .ok (.getfield 29, 3) := by decide +kernel
theorem dX13_combine_93 : decode cX13_combine 93 = .ok (.iload_n 2, 1) := by decide +kernel
theorem dX13_combine_94 : decode cX13_combine 94 = .ok (.aaload, 1) := by decide +kernel
theorem dX13_combine_95 : decode cX13_combine 95 = .ok (.iload 4, 2) := by decide +kernel
theorem dX13_combine_97 : decode cX13_combine 97 = .ok (.invokevirtual 205, 3) := by decide +kernel
theorem dX13_combine_100 : decode cX13_combine 100 = .ok (.aastore, 1) := by decide +kernel
theorem dX13_combine_101 : decode cX13_combine 101 = .ok (.aload_n 0, 1) := by decide +kernel
theorem dX13_combine_102 : decode cX13_combine 102 = .ok (.getfield 29, 3) := by decide +kernel
theorem dX13_combine_105 : decode cX13_combine 105 = .ok (.iload_n 3, 1) := by decide +kernel
theorem dX13_combine_106 : decode cX13_combine 106 = .ok (.aaload, 1) := by decide +kernel
theorem dX13_combine_107 : decode cX13_combine 107 = .ok (.arraylength, 1) := by decide +kernel
theorem dX13_combine_108 : decode cX13_combine 108 = .ok (.ireturn, 1) := by decide +kernel
set_option maxRecDepth 20000 in
theorem ggX13_thinned_Jx4a65c_init_da8c8 : GoodIn wsX13_thinned wsJx4a65c_init_da8c8 := goodIn_r _ [7, 8, 9, 10, 11, 12, 13, 14, 15, 16, 17, 18, 19, 20, 21, 125, 126, 127] (by decide +kernel) (by decide +kernel)
set_option maxRecDepth 20000 in
theorem gX13_thinned_Jx4a65c_init_da8c8 : GoodIn wsX13_thinned (wsJx4a65c_init_da8c8) := ggX13_thinned_Jx4a65c_init_da8c8
set_option maxRecDepth 20000 in
theorem ggX13_thinned_X13_in : GoodIn wsX13_thinned wsX13_in := goodIn_r _ [25] (by decide +kernel) (by decide +kernel)
set_option maxRecDepth 20000 in
theorem gX13_thinned_X13_in : GoodIn wsX13_thinned (va_wsS RX13 7 yX13_in wsX13_in) := goodIn_app (goodIn_of _ (by decide +kernel)) ggX13_thinned_X13_in
set_option maxRecDepth 20000 in
theorem ggX13_thinned_J6_valueOf_2dffe : GoodIn wsX13_thinned wsJ6_valueOf_2dffe := goodIn_r _ [29, 30, 31, 32, 33, 28, 34, 35, 36, 37, 38, 39, 40, 41, 42, 20, 21, 142] (by decide +kernel) (by decide +kernel)
set_option maxRecDepth 20000 in
theorem gX13_thinned_J6_valueOf_2dffe : GoodIn wsX13_thinned (va_wsS RX13 119 yJ6_valueOf_2dffe wsJ6_valueOf_2dffe) := goodIn_app (goodIn_of _ (by decide +kernel)) ggX13_thinned_J6_valueOf_2dffe
set_option maxRecDepth 20000 in
theorem ggX13_thinned_Jx4a65c_add_9ea2d : GoodIn wsX13_thinned wsJx4a65c_add_9ea2d := goodIn_r _ [46, 47, 48, 9, 49, 50, 51, 52, 3, 53, 54, 55, 56, 57, 58, 59, 60, 61, 8, 62, 63, 64, 65, 66, 67, 68, 69, 70, 71, 72, 73, 74, 75, 76, 77, 78, 79, 80, 81, 82, 83, 84, 85, 86, 87, 88, 89, 90, 91, 92, 93, 94, 95, 125, 126, 127] (by decide +kernel) (by decide +kernel)
set_option maxRecDepth 20000 in
theorem gX13_thinned_Jx4a65c_add_9ea2d_f109Jx4a65c : GoodIn wsX13_thinned (va_wsF RX13 109 RJx4a65c ⟨"java/util/List", "add", "(Ljava/lang/Object;)Z"⟩ yJx4a65c_add_9ea2d wsJx4a65c_add_9ea2d) := goodIn_app (goodIn_of _ (by decide +kernel)) ggX13_thinned_Jx4a65c_add_9ea2d
set_option maxRecDepth 20000 in
theorem ggX13_thinned_X13_rowOf : GoodIn wsX13_thinned wsX13_rowOf := goodIn_r _ [98, 99, 100, 101, 102, 103, 3, 104, 49, 105, 106, 107, 108, 109, 110, 111, 112, 113, 114, 115, 116, 117, 118, 119, 120, 9, 121, 122, 123, 28, 124, 37, 125, 126, 127, 142] (by decide +kernel) (by decide +kernel)
set_option maxRecDepth 20000 in
theorem gX13_thinned_X13_rowOf : GoodIn wsX13_thinned (va_wsS RX13 134 yX13_rowOf wsX13_rowOf) := goodIn_app (goodIn_of _ (by decide +kernel)) ggX13_thinned_X13_rowOf
theorem dX13_thinned_0 : decode cX13_thinned 0 = .ok (.new 98, 3) := by decide +kernel
theorem dX13_thinned_3 : decode cX13_thinned 3 = .ok (.dup, 1) := by decide +kernel
theorem dX13_thinned_4 : decode cX13_thinned 4 = .ok (.invokespecial 100, 3) := by decide +kernel
theorem dX13_thinned_7 : decode cX13_thinned 7 = .ok (.astore_n 3, 1) := by decide +kernel
theorem dX13_thinned_8 : decode cX13_thinned 8 = .ok (.iconst 0, 1) := by decide +kernel
theorem dX13_thinned_9 : decode cX13_thinned 9 = .ok (.istore 4, 2) := by decide +kernel
theorem dX13_thinned_11 : decode cX13_thinned 11 = .ok (.iload 4, 2) := by decide +kernel
theorem dX13_thinned_13 : decode cX13_thinned 13 = .ok (.aload_n 1, 1) := by decide +kernel
theorem dX13_thinned_14 : decode cX13_thinned 14 = .ok (.arraylength, 1) := by decide +kernel
theorem dX13_thinned_15 : decode cX13_thinned 15 = .ok (.if_icmp .ge 75, 3) := by decide +kernel
theorem dX13_thinned_18 : decode cX13_thinned 18 = .ok (.iload_n 2, 1) := by decide +kernel
theorem dX13_thinned_19 : decode cX13_thinned 19 = .ok (.ifCond .eq 10, 3) := by decide +kernel
theorem dX13_thinned_22 : decode cX13_thinned 22 = .ok (.iload 4, 2) := by decide +kernel
theorem dX13_thinned_24 : decode cX13_thinned 24 = .ok (.iconst 1, 1) := by decide +kernel
theorem dX13_thinned_25 : decode cX13_thinned 25 = .ok (.iadd, 1) := by decide +kernel
theorem dX13_thinned_26 : decode cX13_thinned 26 = .ok (.goto 7, 3) := by decide +kernel
theorem dX13_thinned_29 : decode cX13_thinned 29 = .ok (.iload 4, 2) := by decide +kernel
theorem dX13_thinned_31 : decode cX13_thinned 31 = .ok (.iconst 1, 1) := by decide +kernel
theorem dX13_thinned_32 : decode cX13_thinned 32 = .ok (.isub, 1) := by decide +kernel
theorem dX13_thinned_33 : decode cX13_thinned 33 = .ok (.istore 5, 2) := by decide +kernel
theorem dX13_thinned_35 : decode cX13_thinned 35 = .ok (.iload 5, 2) := by decide +kernel
theorem dX13_thinned_37 : decode cX13_thinned 37 = .ok (.iconst 0, 1) := by decide +kernel
theorem dX13_thinned_38 : decode cX13_thinned 38 = .ok (.aload_n 1, 1) := by decide +kernel
theorem dX13_thinned_39 : decode cX13_thinned 39 = .ok (.arraylength, 1) := by decide +kernel
theorem dX13_thinned_40 : decode cX13_thinned 40 = .ok (.iconst 1, 1) := by decide +kernel
theorem dX13_thinned_41 : decode cX13_thinned 41 = .ok (.isub, 1) := by decide +kernel
theorem dX13_thinned_42 : decode cX13_thinned 42 = .ok (.invokestatic 7, 3) := by decide +kernel
theorem dX13_thinned_45 : decode cX13_thinned 45 = .ok (.ifCond .eq 24, 3) := by decide +kernel
theorem dX13_thinned_48 : decode cX13_thinned 48 = .ok (.aload_n 0, 1) := by decide +kernel
theorem dX13_thinned_49 : decode cX13_thinned 49 = .ok (.getfield 11, 3) := by decide +kernel
theorem dX13_thinned_52 : decode cX13_thinned 52 = .ok (.aload_n 1, 1) := by decide +kernel
theorem dX13_thinned_53 : decode cX13_thinned 53 = .ok (.iload 5, 2) := by decide +kernel
theorem dX13_thinned_55 : decode cX13_thinned 55 = .ok (.iaload, 1) := by decide +kernel
theorem dX13_thinned_56 : decode cX13_thinned 56 = .ok (.iaload, 1) := by decide +kernel
theorem dX13_thinned_57 : decode cX13_thinned 57 = .ok (.aload_n 0, 1) := by decide +kernel
theorem dX13_thinned_58 : decode cX13_thinned 58 = .ok (.getfield 11, 3) := by decide +kernel
theorem dX13_thinned_61 : decode cX13_thinned 61 = .ok (.aload_n 1, 1) := by decide +kernel
theorem dX13_thinned_62 : decode cX13_thinned 62 = .ok (.iload 4, 2) := by decide +kernel
theorem dX13_thinned_64 : decode cX13_thinned 64 = .ok (.iaload, 1) := by decide +kernel
theorem dX13_thinned_65 : decode cX13_thinned 65 = .ok (.iaload, 1) := by decide +kernel
theorem dX13_thinned_66 : decode cX13_thinned 66 = .ok (.if_icmp .eq 18, 3) := by decide +kernel
theorem dX13_thinned_69 : decode cX13_thinned 69 = .ok (.aload_n 3, 1) := by decide +kernel
theorem dX13_thinned_70 : decode cX13_thinned 70 = .ok (.aload_n 1, 1) := by decide +kernel
theorem dX13_thinned_71 : decode cX13_thinned 71 = .ok (.iload 4, 2) := by decide +kernel
theorem dX13_thinned_73 : decode cX13_thinned 73 = .ok (.iaload, 1) := by decide +kernel
theorem dX13_thinned_74 : decode cX13_thinned 74 = .ok (.invokestatic 119, 3) := by decide +kernel
theorem dX13_thinned_77 : decode cX13_thinned 77 = .ok (.invokeinterface 109 2, 5) := by decide +kernel
theorem dX13_thinned_82 : decode cX13_thinned 82 = .ok (.istore 6, 2) := by decide +kernel
theorem dX13_thinned_84 : decode cX13_thinned 84 = .ok (.iinc 4 1, 3) := by decide +kernel
theorem dX13_thinned_87 : decode cX13_thinned 87 = .ok (.goto (-76), 3) := by decide +kernel
theorem dX13_thinned_90 : decode cX13_thinned 90 = .ok (.aload_n 3, 1) := by decide +kernel
theorem dX13_thinned_91 : decode cX13_thinned 91 = .ok (.invokestatic 134, 3) := by decide +kernel
theorem dX13_thinned_94 : decode cX13_thinned 94 = .ok (.areturn, 1) := by decide +kernel
set_option maxRecDepth 20000 in
theorem ggX13_thin_X13_isTape : GoodIn wsX13_thin wsX13_isTape := goodIn_r _ [5, 6, 7, 4, 8] (by decide +kernel) (by decide +kernel)
set_option maxRecDepth 20000 in
theorem gX13_thin_X13_isTape : GoodIn wsX13_thin (va_wsS RX13 44 yX13_isTape wsX13_isTape) := goodIn_app (goodIn_of _ (by decide +kernel)) ggX13_thin_X13_isTape
set_option maxRecDepth 20000 in
theorem ggX13_thin_X13_passes : GoodIn wsX13_thin wsX13_passes := goodIn_r _ [12, 13, 138, 139, 140, 141, 142, 143, 144, 145, 146, 147, 148, 149, 150, 151] (by decide +kernel) (by decide +kernel)
set_option maxRecDepth 20000 in
theorem gX13_thin_X13_passes : GoodIn wsX13_thin (wsV RX13 55 RX13 yX13_passes wsX13_passes) := goodIn_app (goodIn_of _ (by decide +kernel)) ggX13_thin_X13_passes
set_option maxRecDepth 20000 in
theorem ggX13_thin_X13_thinned : GoodIn wsX13_thin wsX13_thinned := goodIn_r _ [17, 18, 19, 20, 21, 22, 23, 24, 25, 26, 27, 28, 29, 30, 31, 32, 33, 34, 35, 36, 37, 38, 6, 7, 4, 8, 39, 40, 41, 42, 43, 44, 45, 46, 47, 48, 49, 50, 51, 52, 53, 54, 55, 56, 57, 58, 59, 60, 61, 62, 63, 64, 65, 66, 67, 68, 69, 70, 71, 72, 73, 74, 75, 76, 77, 78, 79, 80, 81, 82, 83, 84, 85, 86, 87, 88, 89, 90, 91, 92, 93, 94, 95, 96, 97, 98, 99, 100, 101, 102, 103, 104, 105, 106, 107, 108, 109, 110, 111, 112, 113, 114, 115, 116, 117, 118, 119, 120, 121, 122, 123, 124, 125, 126, 127, 128, 129, 130, 131, 132, 133, 134, 135, 136, 137, 152, 153, 154, 138, 139, 140, 141, 142, 143, 144, 145, 146, 147, 148, 149, 150, 151, 155] (by decide +kernel) (by decide +kernel)
set_option maxRecDepth 20000 in
theorem gX13_thin_X13_thinned : GoodIn wsX13_thin (wsV RX13 209 RX13 yX13_thinned wsX13_thinned) := goodIn_app (goodIn_of _ (by decide +kernel)) ggX13_thin_X13_thinned
theorem dX13_thin_0 : decode cX13_thin 0 = .ok (.aload_n 0, 1) := by decide +kernel
theorem dX13_thin_1 : decode cX13_thin 1 = .ok (.iload_n 1, 1) := by decide +kernel
theorem dX13_thin_2 : decode cX13_thin 2 = .ok (.invokestatic 44, 3) := by decide +kernel
theorem dX13_thin_5 : decode cX13_thin 5 = .ok (.iconst 1, 1) := by decide +kernel
theorem dX13_thin_6 : decode cX13_thin 6 = .ok (.iconst 1, 1) := by decide +kernel
theorem dX13_thin_7 : decode cX13_thin 7 = .ok (.invokevirtual 55, 3) := by decide +kernel
theorem dX13_thin_10 : decode cX13_thin 10 = .ok (.ifCond .ne 5, 3) := by decide +kernel
theorem dX13_thin_13 : decode cX13_thin 13 = .ok (.iconst 0, 1) := by decide +kernel
theorem dX13_thin_14 : decode cX13_thin 14 = .ok (.ireturn, 1) := by decide +kernel
theorem dX13_thin_15 : decode cX13_thin 15 = .ok (.aload_n 0, 1) := by decide +kernel
theorem dX13_thin_16 : decode cX13_thin 16 = .ok (.getfield 29, 3) := by decide +kernel
theorem dX13_thin_19 : decode cX13_thin 19 = .ok (.iload_n 1, 1) := by decide +kernel
theorem dX13_thin_20 : decode cX13_thin 20 = .ok (.aaload, 1) := by decide +kernel
theorem dX13_thin_21 : decode cX13_thin 21 = .ok (.arraylength, 1) := by decide +kernel
theorem dX13_thin_22 : decode cX13_thin 22 = .ok (.istore_n 3, 1) := by decide +kernel
theorem dX13_thin_23 : decode cX13_thin 23 = .ok (.aload_n 0, 1) := by decide +kernel
theorem dX13_thin_24 : decode cX13_thin 24 = .ok (.getfield 29, 3) := by decide +kernel
theorem dX13_thin_27 : decode cX13_thin 27 = .ok (.iload_n 1, 1) := by decide +kernel
theorem dX13_thin_28 : decode cX13_thin 28 = .ok (.aload_n 0, 1) := by decide +kernel
theorem dX13_thin_29 : decode cX13_thin 29 = .ok (.aload_n 0, 1) := by decide +kernel
theorem dX13_thin_30 : decode cX13_thin 30 = .ok (.getfield 29, 3) := by decide +kernel
theorem dX13_thin_33 : decode cX13_thin 33 = .ok (.iload_n 1, 1) := by decide +kernel
theorem dX13_thin_34 : decode cX13_thin 34 = .ok (.aaload, 1) := by decide +kernel
theorem dX13_thin_35 : decode cX13_thin 35 = .ok (.iload_n 2, 1) := by decide +kernel
theorem dX13_thin_36 : decode cX13_thin 36 = .ok (.invokevirtual 209, 3) := by decide +kernel
theorem dX13_thin_39 : decode cX13_thin 39 = .ok (.aastore, 1) := by decide +kernel
theorem dX13_thin_40 : decode cX13_thin 40 = .ok (.iload_n 3, 1) := by decide +kernel
theorem dX13_thin_41 : decode cX13_thin 41 = .ok (.aload_n 0, 1) := by decide +kernel
theorem dX13_thin_42 : decode cX13_thin 42 = .ok (.getfield 29, 3) := by decide +kernel
theorem dX13_thin_45 : decode cX13_thin 45 = .ok (.iload_n 1, 1) := by decide +kernel
theorem dX13_thin_46 : decode cX13_thin 46 = .ok (.aaload, 1) := by decide +kernel
theorem dX13_thin_47 : decode cX13_thin 47 = .ok (.arraylength, 1) := by decide +kernel
theorem dX13_thin_48 : decode cX13_thin 48 = .ok (.isub, 1) := by decide +kernel
theorem dX13_thin_49 : decode cX13_thin 49 = .ok (.ireturn, 1) := by decide +kernel
set_option maxRecDepth 20000 in
theorem ggX13_isUp_X13_isTape : GoodIn wsX13_isUp wsX13_isTape := goodIn_r _ [5, 6, 7, 4, 8] (by decide +kernel) (by decide +kernel)
set_option maxRecDepth 20000 in
theorem gX13_isUp_X13_isTape : GoodIn wsX13_isUp (va_wsS RX13 44 yX13_isTape wsX13_isTape) := goodIn_app (goodIn_of _ (by decide +kernel)) ggX13_isUp_X13_isTape
set_option maxRecDepth 20000 in
theorem ggX13_isUp_X13_isInOrder : GoodIn wsX13_isUp wsX13_isInOrder := goodIn_r _ [12, 13, 14, 15, 4, 16, 17, 18, 19, 20, 21, 22, 23, 24, 25, 26, 27, 28, 29, 30, 31] (by decide +kernel) (by decide +kernel)
set_option maxRecDepth 20000 in
theorem gX13_isUp_X13_isInOrder : GoodIn wsX13_isUp (wsV RX13 71 RX13 yX13_isInOrder wsX13_isInOrder) := goodIn_app (goodIn_of _ (by decide +kernel)) ggX13_isUp_X13_isInOrder
theorem dX13_isUp_0 : decode cX13_isUp 0 = .ok (.iload_n 1, 1) := by decide +kernel
theorem dX13_isUp_1 : decode cX13_isUp 1 = .ok (.invokestatic 44, 3) := by decide +kernel
theorem dX13_isUp_4 : decode cX13_isUp 4 = .ok (.ifCond .eq 21, 3) := by decide +kernel
theorem dX13_isUp_7 : decode cX13_isUp 7 = .ok (.aload_n 0, 1) := by decide +kernel
theorem dX13_isUp_8 : decode cX13_isUp 8 = .ok (.aload_n 0, 1) := by decide +kernel
theorem dX13_isUp_9 : decode cX13_isUp 9 = .ok (.getfield 29, 3) := by decide +kernel
theorem dX13_isUp_12 : decode cX13_isUp 12 = .ok (.iload_n 1, 1) := by decide +kernel
theorem dX13_isUp_13 : decode cX13_isUp 13 = .ok (.aaload, 1) := by decide +kernel
theorem dX13_isUp_14 : decode cX13_isUp 14 = .ok (.iconst 0, 1) := by decide +kernel
theorem dX13_isUp_15 : decode cX13_isUp 15 = .ok (.invokevirtual 71, 3) := by decide +kernel
theorem dX13_isUp_18 : decode cX13_isUp 18 = .ok (.ifCond .eq 7, 3) := by decide +kernel
theorem dX13_isUp_21 : decode cX13_isUp 21 = .ok (.iconst 1, 1) := by decide +kernel
theorem dX13_isUp_22 : decode cX13_isUp 22 = .ok (.goto 4, 3) := by decide +kernel
theorem dX13_isUp_25 : decode cX13_isUp 25 = .ok (.iconst 0, 1) := by decide +kernel
theorem dX13_isUp_26 : decode cX13_isUp 26 = .ok (.ireturn, 1) := by decide +kernel
set_option maxRecDepth 20000 in
theorem ggX13_find_X13_isTape : GoodIn wsX13_find wsX13_isTape := goodIn_r _ [6, 7, 8, 5, 9] (by decide +kernel) (by decide +kernel)
set_option maxRecDepth 20000 in
theorem gX13_find_X13_isTape : GoodIn wsX13_find (va_wsS RX13 44 yX13_isTape wsX13_isTape) := goodIn_app (goodIn_of _ (by decide +kernel)) ggX13_find_X13_isTape
set_option maxRecDepth 20000 in
theorem ggX13_find_X13_isUp : GoodIn wsX13_find wsX13_isUp := goodIn_r _ [13, 1, 3, 4, 5, 6, 7, 8, 9, 14, 15, 16, 17, 18, 19, 20, 21, 2, 27, 28, 29, 30, 31, 32, 33, 34, 35, 36, 37, 38, 39, 40] (by decide +kernel) (by decide +kernel)
set_option maxRecDepth 20000 in
theorem gX13_find_X13_isUp : GoodIn wsX13_find (wsV RX13 213 RX13 yX13_isUp wsX13_isUp) := goodIn_app (goodIn_of _ (by decide +kernel)) ggX13_find_X13_isUp
set_option maxRecDepth 20000 in
theorem ggX13_find_X13_passes : GoodIn wsX13_find wsX13_passes := goodIn_r _ [25, 26, 27, 28, 29, 30, 31, 32, 33, 34, 35, 36, 37, 38, 39, 40] (by decide +kernel) (by decide +kernel)
set_option maxRecDepth 20000 in
theorem gX13_find_X13_passes : GoodIn wsX13_find (wsV RX13 55 RX13 yX13_passes wsX13_passes) := goodIn_app (goodIn_of _ (by decide +kernel)) ggX13_find_X13_passes
theorem dX13_find_0 : decode cX13_find 0 = .ok (.aload_n 0, 1) := by decide +kernel
theorem dX13_find_1 : decode cX13_find 1 = .ok (.iload_n 1, 1) := by decide +kernel
theorem dX13_find_2 : decode cX13_find 2 = .ok (.invokestatic 44, 3) := by decide +kernel
theorem dX13_find_5 : decode cX13_find 5 = .ok (.aload_n 0, 1) := by decide +kernel
theorem dX13_find_6 : decode cX13_find 6 = .ok (.iload_n 1, 1) := by decide +kernel
theorem dX13_find_7 : decode cX13_find 7 = .ok (.invokevirtual 213, 3) := by decide +kernel
theorem dX13_find_10 : decode cX13_find 10 = .ok (.iconst 1, 1) := by decide +kernel
theorem dX13_find_11 : decode cX13_find 11 = .ok (.invokevirtual 55, 3) := by decide +kernel
theorem dX13_find_14 : decode cX13_find 14 = .ok (.ifCond .ne 5, 3) := by decide +kernel
theorem dX13_find_17 : decode cX13_find 17 = .ok (.iconst 0, 1) := by decide +kernel
theorem dX13_find_18 : decode cX13_find 18 = .ok (.ireturn, 1) := by decide +kernel
theorem dX13_find_19 : decode cX13_find 19 = .ok (.iconst 0, 1) := by decide +kernel
theorem dX13_find_20 : decode cX13_find 20 = .ok (.istore_n 3, 1) := by decide +kernel
theorem dX13_find_21 : decode cX13_find 21 = .ok (.iload_n 3, 1) := by decide +kernel
theorem dX13_find_22 : decode cX13_find 22 = .ok (.aload_n 0, 1) := by decide +kernel
theorem dX13_find_23 : decode cX13_find 23 = .ok (.getfield 29, 3) := by decide +kernel
theorem dX13_find_26 : decode cX13_find 26 = .ok (.iload_n 1, 1) := by decide +kernel
theorem dX13_find_27 : decode cX13_find 27 = .ok (.aaload, 1) := by decide +kernel
theorem dX13_find_28 : decode cX13_find 28 = .ok (.arraylength, 1) := by decide +kernel
theorem dX13_find_29 : decode cX13_find 29 = .ok (.if_icmp .ge 28, 3) := by decide +kernel
theorem dX13_find_32 : decode cX13_find 32 = .ok (.aload_n 0, 1) := by decide +kernel
theorem dX13_find_33 : decode cX13_find 33 = .ok (.getfield 11, 3) := by decide +kernel
theorem dX13_find_36 : decode cX13_find 36 = .ok (.aload_n 0, 1) := by decide +kernel
theorem dX13_find_37 : decode cX13_find 37 = .ok (.getfield 29, 3) := by decide +kernel
theorem dX13_find_40 : decode cX13_find 40 = .ok (.iload_n 1, 1) := by decide +kernel
theorem dX13_find_41 : decode cX13_find 41 = .ok (.aaload, 1) := by decide +kernel
theorem dX13_find_42 : decode cX13_find 42 = .ok (.iload_n 3, 1) := by decide +kernel
theorem dX13_find_43 : decode cX13_find 43 = .ok (.iaload, 1) := by decide +kernel
theorem dX13_find_44 : decode cX13_find 44 = .ok (.iaload, 1) := by decide +kernel
theorem dX13_find_45 : decode cX13_find 45 = .ok (.iload_n 2, 1) := by decide +kernel
theorem dX13_find_46 : decode cX13_find 46 = .ok (.if_icmp .ne 5, 3) := by decide +kernel
theorem dX13_find_49 : decode cX13_find 49 = .ok (.iload_n 3, 1) := by decide +kernel
theorem dX13_find_50 : decode cX13_find 50 = .ok (.ireturn, 1) := by decide +kernel
theorem dX13_find_51 : decode cX13_find 51 = .ok (.iinc 3 1, 3) := by decide +kernel
theorem dX13_find_54 : decode cX13_find 54 = .ok (.goto (-33), 3) := by decide +kernel
theorem dX13_find_57 : decode cX13_find 57 = .ok (.iconst (-1), 1) := by decide +kernel
theorem dX13_find_58 : decode cX13_find 58 = .ok (.ireturn, 1) := by decide +kernel
set_option maxRecDepth 20000 in
theorem ggX13_floor_X13_isTape : GoodIn wsX13_floor wsX13_isTape := goodIn_r _ [6, 7, 8, 5, 9] (by decide +kernel) (by decide +kernel)
set_option maxRecDepth 20000 in
theorem gX13_floor_X13_isTape : GoodIn wsX13_floor (va_wsS RX13 44 yX13_isTape wsX13_isTape) := goodIn_app (goodIn_of _ (by decide +kernel)) ggX13_floor_X13_isTape
set_option maxRecDepth 20000 in
theorem ggX13_floor_X13_isUp : GoodIn wsX13_floor wsX13_isUp := goodIn_r _ [13, 1, 3, 4, 5, 6, 7, 8, 9, 14, 15, 16, 17, 18, 19, 20, 21, 2, 27, 28, 29, 30, 31, 32, 33, 34, 35, 36, 37, 38, 39, 40] (by decide +kernel) (by decide +kernel)
set_option maxRecDepth 20000 in
theorem gX13_floor_X13_isUp : GoodIn wsX13_floor (wsV RX13 213 RX13 yX13_isUp wsX13_isUp) := goodIn_app (goodIn_of _ (by decide +kernel)) ggX13_floor_X13_isUp
set_option maxRecDepth 20000 in
theorem ggX13_floor_X13_passes : GoodIn wsX13_floor wsX13_passes := goodIn_r _ [25, 26, 27, 28, 29, 30, 31, 32, 33, 34, 35, 36, 37, 38, 39, 40] (by decide +kernel) (by decide +kernel)
set_option maxRecDepth 20000 in
theorem gX13_floor_X13_passes : GoodIn wsX13_floor (wsV RX13 55 RX13 yX13_passes wsX13_passes) := goodIn_app (goodIn_of _ (by decide +kernel)) ggX13_floor_X13_passes
theorem dX13_floor_0 : decode cX13_floor 0 = .ok (.iconst 0, 1) := by decide +kernel
theorem dX13_floor_1 : decode cX13_floor 1 = .ok (.istore_n 3, 1) := by decide +kernel
theorem dX13_floor_2 : decode cX13_floor 2 = .ok (.iconst 0, 1) := by decide +kernel
theorem dX13_floor_3 : decode cX13_floor 3 = .ok (.istore 4, 2) := by decide +kernel
theorem dX13_floor_5 : decode cX13_floor 5 = .ok (.iconst 0, 1) := by decide +kernel
theorem dX13_floor_6 : decode cX13_floor 6 = .ok (.istore 5, 2) := by decide +kernel
theorem dX13_floor_8 : decode cX13_floor 8 = .ok (.iload_n 1, 1) := by decide +kernel
theorem dX13_floor_9 : decode cX13_floor 9 = .ok (.invokestatic 44, 3) := by decide +kernel
theorem dX13_floor_12 : decode cX13_floor 12 = .ok (.ifCond .eq 77, 3) := by decide +kernel
theorem dX13_floor_15 : decode cX13_floor 15 = .ok (.iload 5, 2) := by decide +kernel
theorem dX13_floor_17 : decode cX13_floor 17 = .ok (.aload_n 0, 1) := by decide +kernel
theorem dX13_floor_18 : decode cX13_floor 18 = .ok (.getfield 29, 3) := by decide +kernel
theorem dX13_floor_21 : decode cX13_floor 21 = .ok (.iload_n 1, 1) := by decide +kernel
theorem dX13_floor_22 : decode cX13_floor 22 = .ok (.aaload, 1) := by decide +kernel
theorem dX13_floor_23 : decode cX13_floor 23 = .ok (.arraylength, 1) := by decide +kernel
theorem dX13_floor_24 : decode cX13_floor 24 = .ok (.if_icmp .ge 65, 3) := by decide +kernel
theorem dX13_floor_27 : decode cX13_floor 27 = .ok (.aload_n 0, 1) := by decide +kernel
theorem dX13_floor_28 : decode cX13_floor 28 = .ok (.getfield 11, 3) := by decide +kernel
theorem dX13_floor_31 : decode cX13_floor 31 = .ok (.aload_n 0, 1) := by decide +kernel
theorem dX13_floor_32 : decode cX13_floor 32 = .ok (.getfield 29, 3) := by decide +kernel
theorem dX13_floor_35 : decode cX13_floor 35 = .ok (.iload_n 1, 1) := by decide +kernel
theorem dX13_floor_36 : decode cX13_floor 36 = .ok (.aaload, 1) := by decide +kernel
theorem dX13_floor_37 : decode cX13_floor 37 = .ok (.iload 5, 2) := by decide +kernel
theorem dX13_floor_39 : decode cX13_floor 39 = .ok (.iaload, 1) := by decide +kernel
theorem dX13_floor_40 : decode cX13_floor 40 = .ok (.iaload, 1) := by decide +kernel
theorem dX13_floor_41 : decode cX13_floor 41 = .ok (.istore 6, 2) := by decide +kernel
theorem dX13_floor_43 : decode cX13_floor 43 = .ok (.iload 6, 2) := by decide +kernel
theorem dX13_floor_45 : decode cX13_floor 45 = .ok (.iload_n 2, 1) := by decide +kernel
theorem dX13_floor_46 : decode cX13_floor 46 = .ok (.if_icmp .gt 19, 3) := by decide +kernel
theorem dX13_floor_49 : decode cX13_floor 49 = .ok (.iload_n 3, 1) := by decide +kernel
theorem dX13_floor_50 : decode cX13_floor 50 = .ok (.ifCond .eq 10, 3) := by decide +kernel
theorem dX13_floor_53 : decode cX13_floor 53 = .ok (.iload 6, 2) := by decide +kernel
theorem dX13_floor_55 : decode cX13_floor 55 = .ok (.iload 4, 2) := by decide +kernel
theorem dX13_floor_57 : decode cX13_floor 57 = .ok (.if_icmp .le 8, 3) := by decide +kernel
theorem dX13_floor_60 : decode cX13_floor 60 = .ok (.iload 6, 2) := by decide +kernel
theorem dX13_floor_62 : decode cX13_floor 62 = .ok (.goto 5, 3) := by decide +kernel
theorem dX13_floor_65 : decode cX13_floor 65 = .ok (.iload 4, 2) := by decide +kernel
theorem dX13_floor_67 : decode cX13_floor 67 = .ok (.istore 4, 2) := by decide +kernel
theorem dX13_floor_69 : decode cX13_floor 69 = .ok (.iload_n 3, 1) := by decide +kernel
theorem dX13_floor_70 : decode cX13_floor 70 = .ok (.iload 6, 2) := by decide +kernel
theorem dX13_floor_72 : decode cX13_floor 72 = .ok (.iload_n 2, 1) := by decide +kernel
theorem dX13_floor_73 : decode cX13_floor 73 = .ok (.if_icmp .gt 7, 3) := by decide +kernel
theorem dX13_floor_76 : decode cX13_floor 76 = .ok (.iconst 1, 1) := by decide +kernel
theorem dX13_floor_77 : decode cX13_floor 77 = .ok (.goto 4, 3) := by decide +kernel
theorem dX13_floor_80 : decode cX13_floor 80 = .ok (.iconst 0, 1) := by decide +kernel
theorem dX13_floor_81 : decode cX13_floor 81 = .ok (.ior, 1) := by decide +kernel
theorem dX13_floor_82 : decode cX13_floor 82 = .ok (.istore_n 3, 1) := by decide +kernel
theorem dX13_floor_83 : decode cX13_floor 83 = .ok (.iinc 5 1, 3) := by decide +kernel
theorem dX13_floor_86 : decode cX13_floor 86 = .ok (.goto (-78), 3) := by decide +kernel
theorem dX13_floor_89 : decode cX13_floor 89 = .ok (.aload_n 0, 1) := by decide +kernel
theorem dX13_floor_90 : decode cX13_floor 90 = .ok (.iload_n 1, 1) := by decide +kernel
theorem dX13_floor_91 : decode cX13_floor 91 = .ok (.invokestatic 44, 3) := by decide +kernel
theorem dX13_floor_94 : decode cX13_floor 94 = .ok (.aload_n 0, 1) := by decide +kernel
theorem dX13_floor_95 : decode cX13_floor 95 = .ok (.iload_n 1, 1) := by decide +kernel
theorem dX13_floor_96 : decode cX13_floor 96 = .ok (.invokevirtual 213, 3) := by decide +kernel
theorem dX13_floor_99 : decode cX13_floor 99 = .ok (.iload_n 3, 1) := by decide +kernel
theorem dX13_floor_100 : decode cX13_floor 100 = .ok (.invokevirtual 55, 3) := by decide +kernel
theorem dX13_floor_103 : decode cX13_floor 103 = .ok (.ifCond .eq 8, 3) := by decide +kernel
theorem dX13_floor_106 : decode cX13_floor 106 = .ok (.iload 4, 2) := by decide +kernel
theorem dX13_floor_108 : decode cX13_floor 108 = .ok (.goto 4, 3) := by decide +kernel
theorem dX13_floor_111 : decode cX13_floor 111 = .ok (.iconst 0, 1) := by decide +kernel
theorem dX13_floor_112 : decode cX13_floor 112 = .ok (.ireturn, 1) := by decide +kernel
set_option maxRecDepth 20000 in
theorem ggX13_ceiling_X13_isTape : GoodIn wsX13_ceiling wsX13_isTape := goodIn_r _ [6, 7, 8, 5, 9] (by decide +kernel) (by decide +kernel)
set_option maxRecDepth 20000 in
theorem gX13_ceiling_X13_isTape : GoodIn wsX13_ceiling (va_wsS RX13 44 yX13_isTape wsX13_isTape) := goodIn_app (goodIn_of _ (by decide +kernel)) ggX13_ceiling_X13_isTape
set_option maxRecDepth 20000 in
theorem ggX13_ceiling_X13_isUp : GoodIn wsX13_ceiling wsX13_isUp := goodIn_r _ [13, 1, 3, 4, 5, 6, 7, 8, 9, 14, 15, 16, 17, 18, 19, 20, 21, 2, 27, 28, 29, 30, 31, 32, 33, 34, 35, 36, 37, 38, 39, 40] (by decide +kernel) (by decide +kernel)
set_option maxRecDepth 20000 in
theorem gX13_ceiling_X13_isUp : GoodIn wsX13_ceiling (wsV RX13 213 RX13 yX13_isUp wsX13_isUp) := goodIn_app (goodIn_of _ (by decide +kernel)) ggX13_ceiling_X13_isUp
set_option maxRecDepth 20000 in
theorem ggX13_ceiling_X13_passes : GoodIn wsX13_ceiling wsX13_passes := goodIn_r _ [25, 26, 27, 28, 29, 30, 31, 32, 33, 34, 35, 36, 37, 38, 39, 40] (by decide +kernel) (by decide +kernel)
set_option maxRecDepth 20000 in
theorem gX13_ceiling_X13_passes : GoodIn wsX13_ceiling (wsV RX13 55 RX13 yX13_passes wsX13_passes) := goodIn_app (goodIn_of _ (by decide +kernel)) ggX13_ceiling_X13_passes
theorem dX13_ceiling_0 : decode cX13_ceiling 0 = .ok (.iconst 0, 1) := by decide +kernel
theorem dX13_ceiling_1 : decode cX13_ceiling 1 = .ok (.istore_n 3, 1) := by decide +kernel
theorem dX13_ceiling_2 : decode cX13_ceiling 2 = .ok (.iconst 0, 1) := by decide +kernel
theorem dX13_ceiling_3 : decode cX13_ceiling 3 = .ok (.istore 4, 2) := by decide +kernel
theorem dX13_ceiling_5 : decode cX13_ceiling 5 = .ok (.iconst 0, 1) := by decide +kernel
theorem dX13_ceiling_6 : decode cX13_ceiling 6 = .ok (.istore 5, 2) := by decide +kernel
theorem dX13_ceiling_8 : decode cX13_ceiling 8 = .ok (.iload_n 1, 1) := by decide +kernel
theorem dX13_ceiling_9 : decode cX13_ceiling 9 = .ok (.invokestatic 44, 3) := by decide +kernel
theorem dX13_ceiling_12 : decode cX13_ceiling 12 = .ok (.ifCond .eq 77, 3) := by decide +kernel
theorem dX13_ceiling_15 : decode cX13_ceiling 15 = .ok (.iload 5, 2) := by decide +kernel
theorem dX13_ceiling_17 : decode cX13_ceiling 17 = .ok (.aload_n 0, 1) := by decide +kernel
theorem dX13_ceiling_18 : decode cX13_ceiling 18 = .ok (.getfield 29, 3) := by decide +kernel
theorem dX13_ceiling_21 : decode cX13_ceiling 21 = .ok (.iload_n 1, 1) := by decide +kernel
theorem dX13_ceiling_22 : decode cX13_ceiling 22 = .ok (.aaload, 1) := by decide +kernel
theorem dX13_ceiling_23 : decode cX13_ceiling 23 = .ok (.arraylength, 1) := by decide +kernel
theorem dX13_ceiling_24 : decode cX13_ceiling 24 = .ok (.if_icmp .ge 65, 3) := by decide +kernel
theorem dX13_ceiling_27 : decode cX13_ceiling 27 = .ok (.aload_n 0, 1) := by decide +kernel
theorem dX13_ceiling_28 : decode cX13_ceiling 28 = .ok (.getfield 11, 3) := by decide +kernel
theorem dX13_ceiling_31 : decode cX13_ceiling 31 = .ok (.aload_n 0, 1) := by decide +kernel
theorem dX13_ceiling_32 : decode cX13_ceiling 32 = .ok (.getfield 29, 3) := by decide +kernel
theorem dX13_ceiling_35 : decode cX13_ceiling 35 = .ok (.iload_n 1, 1) := by decide +kernel
theorem dX13_ceiling_36 : decode cX13_ceiling 36 = .ok (.aaload, 1) := by decide +kernel
theorem dX13_ceiling_37 : decode cX13_ceiling 37 = .ok (.iload 5, 2) := by decide +kernel
theorem dX13_ceiling_39 : decode cX13_ceiling 39 = .ok (.iaload, 1) := by decide +kernel
theorem dX13_ceiling_40 : decode cX13_ceiling 40 = .ok (.iaload, 1) := by decide +kernel
theorem dX13_ceiling_41 : decode cX13_ceiling 41 = .ok (.istore 6, 2) := by decide +kernel
theorem dX13_ceiling_43 : decode cX13_ceiling 43 = .ok (.iload 6, 2) := by decide +kernel
theorem dX13_ceiling_45 : decode cX13_ceiling 45 = .ok (.iload_n 2, 1) := by decide +kernel
theorem dX13_ceiling_46 : decode cX13_ceiling 46 = .ok (.if_icmp .lt 19, 3) := by decide +kernel
theorem dX13_ceiling_49 : decode cX13_ceiling 49 = .ok (.iload_n 3, 1) := by decide +kernel
theorem dX13_ceiling_50 : decode cX13_ceiling 50 = .ok (.ifCond .eq 10, 3) := by decide +kernel
theorem dX13_ceiling_53 : decode cX13_ceiling 53 = .ok (.iload 6, 2) := by decide +kernel
theorem dX13_ceiling_55 : decode cX13_ceiling 55 = .ok (.iload 4, 2) := by decide +kernel
theorem dX13_ceiling_57 : decode cX13_ceiling 57 = .ok (.if_icmp .ge 8, 3) := by decide +kernel
theorem dX13_ceiling_60 : decode cX13_ceiling 60 = .ok (.iload 6, 2) := by decide +kernel
theorem dX13_ceiling_62 : decode cX13_ceiling 62 = .ok (.goto 5, 3) := by decide +kernel
theorem dX13_ceiling_65 : decode cX13_ceiling 65 = .ok (.iload 4, 2) := by decide +kernel
theorem dX13_ceiling_67 : decode cX13_ceiling 67 = .ok (.istore 4, 2) := by decide +kernel
theorem dX13_ceiling_69 : decode cX13_ceiling 69 = .ok (.iload_n 3, 1) := by decide +kernel
theorem dX13_ceiling_70 : decode cX13_ceiling 70 = .ok (.iload 6, 2) := by decide +kernel
theorem dX13_ceiling_72 : decode cX13_ceiling 72 = .ok (.iload_n 2, 1) := by decide +kernel
theorem dX13_ceiling_73 : decode cX13_ceiling 73 = .ok (.if_icmp .lt 7, 3) := by decide +kernel
theorem dX13_ceiling_76 : decode cX13_ceiling 76 = .ok (.iconst 1, 1) := by decide +kernel
theorem dX13_ceiling_77 : decode cX13_ceiling 77 = .ok (.goto 4, 3) := by decide +kernel
theorem dX13_ceiling_80 : decode cX13_ceiling 80 = .ok (.iconst 0, 1) := by decide +kernel
theorem dX13_ceiling_81 : decode cX13_ceiling 81 = .ok (.ior, 1) := by decide +kernel
theorem dX13_ceiling_82 : decode cX13_ceiling 82 = .ok (.istore_n 3, 1) := by decide +kernel
theorem dX13_ceiling_83 : decode cX13_ceiling 83 = .ok (.iinc 5 1, 3) := by decide +kernel
theorem dX13_ceiling_86 : decode cX13_ceiling 86 = .ok (.goto (-78), 3) := by decide +kernel
theorem dX13_ceiling_89 : decode cX13_ceiling 89 = .ok (.aload_n 0, 1) := by decide +kernel
theorem dX13_ceiling_90 : decode cX13_ceiling 90 = .ok (.iload_n 1, 1) := by decide +kernel
theorem dX13_ceiling_91 : decode cX13_ceiling 91 = .ok (.invokestatic 44, 3) := by decide +kernel
theorem dX13_ceiling_94 : decode cX13_ceiling 94 = .ok (.aload_n 0, 1) := by decide +kernel
theorem dX13_ceiling_95 : decode cX13_ceiling 95 = .ok (.iload_n 1, 1) := by decide +kernel
theorem dX13_ceiling_96 : decode cX13_ceiling 96 = .ok (.invokevirtual 213, 3) := by decide +kernel
theorem dX13_ceiling_99 : decode cX13_ceiling 99 = .ok (.iload_n 3, 1) := by decide +kernel
theorem dX13_ceiling_100 : decode cX13_ceiling 100 = .ok (.invokevirtual 55, 3) := by decide +kernel
theorem dX13_ceiling_103 : decode cX13_ceiling 103 = .ok (.ifCond .eq 8, 3) := by decide +kernel
theorem dX13_ceiling_106 : decode cX13_ceiling 106 = .ok (.iload 4, 2) := by decide +kernel
theorem dX13_ceiling_108 : decode cX13_ceiling 108 = .ok (.goto 4, 3) := by decide +kernel
theorem dX13_ceiling_111 : decode cX13_ceiling 111 = .ok (.iconst 0, 1) := by decide +kernel
theorem dX13_ceiling_112 : decode cX13_ceiling 112 = .ok (.ireturn, 1) := by decide +kernel
set_option maxRecDepth 20000 in
theorem ggX13_between_X13_isTape : GoodIn wsX13_between wsX13_isTape := goodIn_r _ [6, 7, 8, 5, 9] (by decide +kernel) (by decide +kernel)
set_option maxRecDepth 20000 in
theorem gX13_between_X13_isTape : GoodIn wsX13_between (va_wsS RX13 44 yX13_isTape wsX13_isTape) := goodIn_app (goodIn_of _ (by decide +kernel)) ggX13_between_X13_isTape
set_option maxRecDepth 20000 in
theorem ggX13_between_X13_isUp : GoodIn wsX13_between wsX13_isUp := goodIn_r _ [13, 1, 3, 4, 5, 6, 7, 8, 9, 14, 15, 16, 17, 18, 19, 20, 21, 2, 27, 28, 29, 30, 31, 32, 33, 34, 35, 36, 37, 38, 39, 40] (by decide +kernel) (by decide +kernel)
set_option maxRecDepth 20000 in
theorem gX13_between_X13_isUp : GoodIn wsX13_between (wsV RX13 213 RX13 yX13_isUp wsX13_isUp) := goodIn_app (goodIn_of _ (by decide +kernel)) ggX13_between_X13_isUp
set_option maxRecDepth 20000 in
theorem ggX13_between_X13_passes : GoodIn wsX13_between wsX13_passes := goodIn_r _ [25, 26, 27, 28, 29, 30, 31, 32, 33, 34, 35, 36, 37, 38, 39, 40] (by decide +kernel) (by decide +kernel)
set_option maxRecDepth 20000 in
theorem gX13_between_X13_passes : GoodIn wsX13_between (wsV RX13 55 RX13 yX13_passes wsX13_passes) := goodIn_app (goodIn_of _ (by decide +kernel)) ggX13_between_X13_passes
set_option maxRecDepth 20000 in
theorem ggX13_between_X13_in : GoodIn wsX13_between wsX13_in := goodIn_r _ [9] (by decide +kernel) (by decide +kernel)
set_option maxRecDepth 20000 in
theorem gX13_between_X13_in : GoodIn wsX13_between (va_wsS RX13 7 yX13_in wsX13_in) := goodIn_app (goodIn_of _ (by decide +kernel)) ggX13_between_X13_in
theorem dX13_between_0 : decode cX13_between 0 = .ok (.aload_n 0, 1) := by decide +kernel
theorem dX13_between_1 : decode cX13_between 1 = .ok (.iload_n 1, 1) := by decide +kernel
theorem dX13_between_2 : decode cX13_between 2 = .ok (.invokestatic 44, 3) := by decide +kernel
theorem dX13_between_5 : decode cX13_between 5 = .ok (.aload_n 0, 1) := by decide +kernel
theorem dX13_between_6 : decode cX13_between 6 = .ok (.iload_n 1, 1) := by decide +kernel
theorem dX13_between_7 : decode cX13_between 7 = .ok (.invokevirtual 213, 3) := by decide +kernel
theorem dX13_between_10 : decode cX13_between 10 = .ok (.iconst 1, 1) := by decide +kernel
theorem dX13_between_11 : decode cX13_between 11 = .ok (.invokevirtual 55, 3) := by decide +kernel
theorem dX13_between_14 : decode cX13_between 14 = .ok (.ifCond .ne 5, 3) := by decide +kernel
theorem dX13_between_17 : decode cX13_between 17 = .ok (.iconst 0, 1) := by decide +kernel
theorem dX13_between_18 : decode cX13_between 18 = .ok (.ireturn, 1) := by decide +kernel
theorem dX13_between_19 : decode cX13_between 19 = .ok (.iconst 0, 1) := by decide +kernel
theorem dX13_between_20 : decode cX13_between 20 = .ok (.istore 4, 2) := by decide +kernel
theorem dX13_between_22 : decode cX13_between 22 = .ok (.iconst 0, 1) := by decide +kernel
theorem dX13_between_23 : decode cX13_between 23 = .ok (.istore 5, 2) := by decide +kernel
theorem dX13_between_25 : decode cX13_between 25 = .ok (.iload 5, 2) := by decide +kernel
theorem dX13_between_27 : decode cX13_between 27 = .ok (.aload_n 0, 1) := by decide +kernel
theorem dX13_between_28 : decode cX13_between 28 = .ok (.getfield 29, 3) := by decide +kernel
theorem dX13_between_31 : decode cX13_between 31 = .ok (.iload_n 1, 1) := by decide +kernel
theorem dX13_between_32 : decode cX13_between 32 = .ok (.aaload, 1) := by decide +kernel
theorem dX13_between_33 : decode cX13_between 33 = .ok (.arraylength, 1) := by decide +kernel
theorem dX13_between_34 : decode cX13_between 34 = .ok (.if_icmp .ge 41, 3) := by decide +kernel
theorem dX13_between_37 : decode cX13_between 37 = .ok (.iload 4, 2) := by decide +kernel
theorem dX13_between_39 : decode cX13_between 39 = .ok (.aload_n 0, 1) := by decide +kernel
theorem dX13_between_40 : decode cX13_between 40 = .ok (.getfield 11, 3) := by decide +kernel
theorem dX13_between_43 : decode cX13_between 43 = .ok (.aload_n 0, 1) := by decide +kernel
theorem dX13_between_44 : decode cX13_between 44 = .ok (.getfield 29, 3) := by decide +kernel
theorem dX13_between_47 : decode cX13_between 47 = .ok (.iload_n 1, 1) := by decide +kernel
theorem dX13_between_48 : decode cX13_between 48 = .ok (.aaload, 1) := by decide +kernel
theorem dX13_between_49 : decode cX13_between 49 = .ok (.iload 5, 2) := by decide +kernel
theorem dX13_between_51 : decode cX13_between 51 = .ok (.iaload, 1) := by decide +kernel
theorem dX13_between_52 : decode cX13_between 52 = .ok (.iaload, 1) := by decide +kernel
theorem dX13_between_53 : decode cX13_between 53 = .ok (.iload_n 2, 1) := by decide +kernel
theorem dX13_between_54 : decode cX13_between 54 = .ok (.iload_n 3, 1) := by decide +kernel
theorem dX13_between_55 : decode cX13_between 55 = .ok (.invokestatic 7, 3) := by decide +kernel
theorem dX13_between_58 : decode cX13_between 58 = .ok (.ifCond .eq 7, 3) := by decide +kernel
theorem dX13_between_61 : decode cX13_between 61 = .ok (.iconst 1, 1) := by decide +kernel
theorem dX13_between_62 : decode cX13_between 62 = .ok (.goto 4, 3) := by decide +kernel
theorem dX13_between_65 : decode cX13_between 65 = .ok (.iconst 0, 1) := by decide +kernel
theorem dX13_between_66 : decode cX13_between 66 = .ok (.iadd, 1) := by decide +kernel
theorem dX13_between_67 : decode cX13_between 67 = .ok (.istore 4, 2) := by decide +kernel
theorem dX13_between_69 : decode cX13_between 69 = .ok (.iinc 5 1, 3) := by decide +kernel
theorem dX13_between_72 : decode cX13_between 72 = .ok (.goto (-47), 3) := by decide +kernel
theorem dX13_between_75 : decode cX13_between 75 = .ok (.iload 4, 2) := by decide +kernel
theorem dX13_between_77 : decode cX13_between 77 = .ok (.ireturn, 1) := by decide +kernel
set_option maxRecDepth 20000 in
theorem ggX13_keys_X13_isTape : GoodIn wsX13_keys wsX13_isTape := goodIn_r _ [5, 6, 7, 4, 8] (by decide +kernel) (by decide +kernel)
set_option maxRecDepth 20000 in
theorem gX13_keys_X13_isTape : GoodIn wsX13_keys (va_wsS RX13 44 yX13_isTape wsX13_isTape) := goodIn_app (goodIn_of _ (by decide +kernel)) ggX13_keys_X13_isTape
set_option maxRecDepth 20000 in
theorem ggX13_keys_X13_isUp : GoodIn wsX13_keys wsX13_isUp := goodIn_r _ [12, 1, 2, 3, 4, 5, 6, 7, 8, 13, 14, 15, 16, 17, 18, 19, 20, 21, 150, 151, 152, 153, 154, 155, 156, 157, 158, 159, 160, 161, 162, 163] (by decide +kernel) (by decide +kernel)
set_option maxRecDepth 20000 in
theorem gX13_keys_X13_isUp : GoodIn wsX13_keys (wsV RX13 213 RX13 yX13_isUp wsX13_isUp) := goodIn_app (goodIn_of _ (by decide +kernel)) ggX13_keys_X13_isUp
set_option maxRecDepth 20000 in
theorem ggX13_keys_X13_passes : GoodIn wsX13_keys wsX13_passes := goodIn_r _ [25, 26, 150, 151, 152, 153, 154, 155, 156, 157, 158, 159, 160, 161, 162, 163] (by decide +kernel) (by decide +kernel)
set_option maxRecDepth 20000 in
theorem gX13_keys_X13_passes : GoodIn wsX13_keys (wsV RX13 55 RX13 yX13_passes wsX13_passes) := goodIn_app (goodIn_of _ (by decide +kernel)) ggX13_keys_X13_passes
set_option maxRecDepth 20000 in
theorem ggX13_keys_X13_thinned : GoodIn wsX13_keys wsX13_thinned := goodIn_r _ [30, 31, 32, 33, 21, 34, 35, 36, 37, 38, 39, 40, 41, 42, 43, 44, 45, 46, 47, 48, 49, 50, 6, 7, 4, 8, 51, 52, 53, 54, 55, 56, 57, 58, 59, 60, 61, 62, 63, 64, 65, 66, 67, 68, 69, 70, 71, 72, 73, 74, 75, 76, 77, 78, 79, 80, 81, 82, 83, 84, 85, 86, 87, 88, 89, 90, 91, 92, 93, 94, 95, 96, 97, 98, 99, 100, 101, 102, 103, 104, 105, 106, 107, 108, 109, 110, 111, 112, 113, 114, 115, 116, 117, 118, 119, 120, 121, 122, 123, 124, 125, 126, 127, 128, 129, 130, 131, 132, 133, 134, 135, 136, 137, 138, 139, 140, 141, 142, 143, 144, 145, 146, 147, 148, 149, 164, 165, 166, 150, 151, 152, 153, 154, 155, 156, 157, 158, 159, 160, 161, 162, 163, 167] (by decide +kernel) (by decide +kernel)
set_option maxRecDepth 20000 in
theorem gX13_keys_X13_thinned : GoodIn wsX13_keys (wsV RX13 209 RX13 yX13_thinned wsX13_thinned) := goodIn_app (goodIn_of _ (by decide +kernel)) ggX13_keys_X13_thinned
theorem dX13_keys_0 : decode cX13_keys 0 = .ok (.aload_n 0, 1) := by decide +kernel
theorem dX13_keys_1 : decode cX13_keys 1 = .ok (.iload_n 1, 1) := by decide +kernel
theorem dX13_keys_2 : decode cX13_keys 2 = .ok (.invokestatic 44, 3) := by decide +kernel
theorem dX13_keys_5 : decode cX13_keys 5 = .ok (.aload_n 0, 1) := by decide +kernel
theorem dX13_keys_6 : decode cX13_keys 6 = .ok (.iload_n 1, 1) := by decide +kernel
theorem dX13_keys_7 : decode cX13_keys 7 = .ok (.invokevirtual 213, 3) := by decide +kernel
theorem dX13_keys_10 : decode cX13_keys 10 = .ok (.iconst 1, 1) := by decide +kernel
theorem dX13_keys_11 : decode cX13_keys 11 = .ok (.invokevirtual 55, 3) := by decide +kernel
theorem dX13_keys_14 : decode cX13_keys 14 = .ok (.ifCond .eq 18, 3) := by decide +kernel
theorem dX13_keys_17 : decode cX13_keys 17 = .ok (.aload_n 0, 1) := by decide +kernel
theorem dX13_keys_18 : decode cX13_keys 18 = .ok (.aload_n 0, 1) := by decide +kernel
theorem dX13_keys_19 : decode cX13_keys 19 = .ok (.getfield 29, 3) := by decide +kernel
theorem dX13_keys_22 : decode cX13_keys 22 = .ok (.iload_n 1, 1) := by decide +kernel
theorem dX13_keys_23 : decode cX13_keys 23 = .ok (.aaload, 1) := by decide +kernel
theorem dX13_keys_24 : decode cX13_keys 24 = .ok (.iconst 0, 1) := by decide +kernel
theorem dX13_keys_25 : decode cX13_keys 25 = .ok (.invokevirtual 209, 3) := by decide +kernel
theorem dX13_keys_28 : decode cX13_keys 28 = .ok (.arraylength, 1) := by decide +kernel
theorem dX13_keys_29 : decode cX13_keys 29 = .ok (.goto 4, 3) := by decide +kernel
theorem dX13_keys_32 : decode cX13_keys 32 = .ok (.iconst 0, 1) := by decide +kernel
theorem dX13_keys_33 : decode cX13_keys 33 = .ok (.ireturn, 1) := by decide +kernel
set_option maxRecDepth 20000 in
theorem ggX13_type_X13_passes : GoodIn wsX13_type wsX13_passes := goodIn_r _ [8, 9, 10, 11, 12, 13, 14, 15, 16, 17, 18, 19, 20, 21, 22, 23] (by decide +kernel) (by decide +kernel)
set_option maxRecDepth 20000 in
theorem gX13_type_X13_passes : GoodIn wsX13_type (wsV RX13 55 RX13 yX13_passes wsX13_passes) := goodIn_app (goodIn_of _ (by decide +kernel)) ggX13_type_X13_passes
theorem dX13_type_0 : decode cX13_type 0 = .ok (.iconst 0, 1) := by decide +kernel
theorem dX13_type_1 : decode cX13_type 1 = .ok (.istore_n 3, 1) := by decide +kernel
theorem dX13_type_2 : decode cX13_type 2 = .ok (.iconst 0, 1) := by decide +kernel
theorem dX13_type_3 : decode cX13_type 3 = .ok (.istore 4, 2) := by decide +kernel
theorem dX13_type_5 : decode cX13_type 5 = .ok (.iload 4, 2) := by decide +kernel
theorem dX13_type_7 : decode cX13_type 7 = .ok (.bipush 8, 2) := by decide +kernel
theorem dX13_type_9 : decode cX13_type 9 = .ok (.if_icmp .ge 33, 3) := by decide +kernel
theorem dX13_type_12 : decode cX13_type 12 = .ok (.iload_n 3, 1) := by decide +kernel
theorem dX13_type_13 : decode cX13_type 13 = .ok (.lload_n 1, 1) := by decide +kernel
theorem dX13_type_14 : decode cX13_type 14 = .ok (.bipush 8, 2) := by decide +kernel
theorem dX13_type_16 : decode cX13_type 16 = .ok (.iload 4, 2) := by decide +kernel
theorem dX13_type_18 : decode cX13_type 18 = .ok (.imul, 1) := by decide +kernel
theorem dX13_type_19 : decode cX13_type 19 = .ok (.lshr, 1) := by decide +kernel
theorem dX13_type_20 : decode cX13_type 20 = .ok (.ldc2_w 216, 3) := by decide +kernel
theorem dX13_type_23 : decode cX13_type 23 = .ok (.land, 1) := by decide +kernel
theorem dX13_type_24 : decode cX13_type 24 = .ok (.lconst 0, 1) := by decide +kernel
theorem dX13_type_25 : decode cX13_type 25 = .ok (.lcmp, 1) := by decide +kernel
theorem dX13_type_26 : decode cX13_type 26 = .ok (.ifCond .ne 7, 3) := by decide +kernel
theorem dX13_type_29 : decode cX13_type 29 = .ok (.iconst 0, 1) := by decide +kernel
theorem dX13_type_30 : decode cX13_type 30 = .ok (.goto 4, 3) := by decide +kernel
theorem dX13_type_33 : decode cX13_type 33 = .ok (.iconst 1, 1) := by decide +kernel
theorem dX13_type_34 : decode cX13_type 34 = .ok (.iadd, 1) := by decide +kernel
theorem dX13_type_35 : decode cX13_type 35 = .ok (.istore_n 3, 1) := by decide +kernel
theorem dX13_type_36 : decode cX13_type 36 = .ok (.iinc 4 1, 3) := by decide +kernel
theorem dX13_type_39 : decode cX13_type 39 = .ok (.goto (-34), 3) := by decide +kernel
theorem dX13_type_42 : decode cX13_type 42 = .ok (.aload_n 0, 1) := by decide +kernel
theorem dX13_type_43 : decode cX13_type 43 = .ok (.aload_n 0, 1) := by decide +kernel
theorem dX13_type_44 : decode cX13_type 44 = .ok (.getfield 218, 3) := by decide +kernel
theorem dX13_type_47 : decode cX13_type 47 = .ok (.iload_n 3, 1) := by decide +kernel
theorem dX13_type_48 : decode cX13_type 48 = .ok (.iadd, 1) := by decide +kernel
theorem dX13_type_49 : decode cX13_type 49 = .ok (.sipush 160, 3) := by decide +kernel
theorem dX13_type_52 : decode cX13_type 52 = .ok (.if_icmp .gt 7, 3) := by decide +kernel
theorem dX13_type_55 : decode cX13_type 55 = .ok (.iconst 1, 1) := by decide +kernel
theorem dX13_type_56 : decode cX13_type 56 = .ok (.goto 4, 3) := by decide +kernel
theorem dX13_type_59 : decode cX13_type 59 = .ok (.iconst 0, 1) := by decide +kernel
theorem dX13_type_60 : decode cX13_type 60 = .ok (.iconst 1, 1) := by decide +kernel
theorem dX13_type_61 : decode cX13_type 61 = .ok (.iconst 1, 1) := by decide +kernel
theorem dX13_type_62 : decode cX13_type 62 = .ok (.invokevirtual 55, 3) := by decide +kernel
theorem dX13_type_65 : decode cX13_type 65 = .ok (.ifCond .ne 5, 3) := by decide +kernel
theorem dX13_type_68 : decode cX13_type 68 = .ok (.iconst 0, 1) := by decide +kernel
theorem dX13_type_69 : decode cX13_type 69 = .ok (.ireturn, 1) := by decide +kernel
theorem dX13_type_70 : decode cX13_type 70 = .ok (.bipush 7, 2) := by decide +kernel
theorem dX13_type_72 : decode cX13_type 72 = .ok (.istore 4, 2) := by decide +kernel
theorem dX13_type_74 : decode cX13_type 74 = .ok (.iload 4, 2) := by decide +kernel
theorem dX13_type_76 : decode cX13_type 76 = .ok (.ifCond .lt 49, 3) := by decide +kernel
theorem dX13_type_79 : decode cX13_type 79 = .ok (.lload_n 1, 1) := by decide +kernel
theorem dX13_type_80 : decode cX13_type 80 = .ok (.bipush 8, 2) := by decide +kernel
theorem dX13_type_82 : decode cX13_type 82 = .ok (.iload 4, 2) := by decide +kernel
theorem dX13_type_84 : decode cX13_type 84 = .ok (.imul, 1) := by decide +kernel
theorem dX13_type_85 : decode cX13_type 85 = .ok (.lshr, 1) := by decide +kernel
