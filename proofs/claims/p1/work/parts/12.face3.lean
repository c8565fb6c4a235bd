theorem dX11_carryOutText_0 : decode cX11_carryOutText 0 = .ok (.aload_n 0, 1) := by decide +kernel
theorem dX11_carryOutText_1 : decode cX11_carryOutText 1 = .ok (.getfield 71, 3) := by decide +kernel
set_option maxRecDepth 20000 in
theorem ggX11_carryOutText_X5_restart : GoodIn wsX11_carryOutText wsX5_restart := goodIn_r _ [9, 10, 11, 12, 419, 420, 421, 422, 423, 424, 425, 426, 427, 428, 429, 430, 431] (by decide +kernel) (by decide +kernel)
set_option maxRecDepth 20000 in
theorem gX11_carryOutText_X5_restart : GoodIn wsX11_carryOutText (wsV RX11 369 RX5 yX5_restart wsX5_restart) := goodIn_app (goodIn_of _ (by decide +kernel)) ggX11_carryOutText_X5_restart
theorem dX11_carryOutText_4 : decode cX11_carryOutText 4 = .ok (.invokevirtual 369, 3) := by decide +kernel
theorem dX11_carryOutText_7 : decode cX11_carryOutText 7 = .ok (.iconst 1, 1) := by decide +kernel
theorem dX11_carryOutText_8 : decode cX11_carryOutText 8 = .ok (.istore_n 1, 1) := by decide +kernel
theorem dX11_carryOutText_9 : decode cX11_carryOutText 9 = .ok (.iconst 0, 1) := by decide +kernel
theorem dX11_carryOutText_10 : decode cX11_carryOutText 10 = .ok (.istore_n 2, 1) := by decide +kernel
theorem dX11_carryOutText_11 : decode cX11_carryOutText 11 = .ok (.iload_n 2, 1) := by decide +kernel
theorem dX11_carryOutText_12 : decode cX11_carryOutText 12 = .ok (.sipush 160, 3) := by decide +kernel
theorem dX11_carryOutText_15 : decode cX11_carryOutText 15 = .ok (.if_icmp .gt 25, 3) := by decide +kernel
theorem dX11_carryOutText_18 : decode cX11_carryOutText 18 = .ok (.iload_n 1, 1) := by decide +kernel
theorem dX11_carryOutText_19 : decode cX11_carryOutText 19 = .ok (.ifCond .eq 21, 3) := by decide +kernel
theorem dX11_carryOutText_22 : decode cX11_carryOutText 22 = .ok (.aload_n 0, 1) := by decide +kernel
theorem dX11_carryOutText_23 : decode cX11_carryOutText 23 = .ok (.getfield 71, 3) := by decide +kernel
theorem dX11_carryOutText_26 : decode cX11_carryOutText 26 = .ok (.aload_n 0, 1) := by decide +kernel
theorem dX11_carryOutText_27 : decode cX11_carryOutText 27 = .ok (.getfield 33, 3) := by decide +kernel
set_option maxRecDepth 20000 in
theorem ggX11_carryOutText_X5_readStatement : GoodIn wsX11_carryOutText wsX5_readStatement := goodIn_r _ [16, 17, 18, 19, 20, 21, 22, 23, 24, 8, 25, 10, 26, 27, 28, 29, 30, 31, 32, 33, 34, 35, 36, 37, 38, 39, 40, 41, 42, 43, 44, 45, 46, 47, 48, 49, 50, 51, 52, 53, 54, 55, 56, 57, 58, 59, 60, 61, 62, 63, 64, 65, 66, 67, 68, 69, 70, 71, 72, 73, 74, 75, 76, 77, 78, 79, 80, 81, 82, 83, 84, 85, 86, 87, 88, 89, 90, 91, 92, 93, 94, 95, 96, 97, 98, 99, 100, 101, 102, 103, 104, 105, 106, 107, 108, 109, 110, 111, 112, 113, 114, 115, 116, 117, 118, 119, 120, 121, 122, 11, 12, 123, 124, 125, 126, 127, 128, 129, 130, 131, 132, 133, 134, 135, 136, 137, 138, 139, 140, 141, 142, 143, 144, 145, 146, 147, 419, 420, 421, 422, 423, 424, 425, 426, 427, 428, 429, 430, 431, 432, 433, 434, 435, 436, 437, 438] (by decide +kernel) (by decide +kernel)
set_option maxRecDepth 20000 in
theorem gX11_carryOutText_X5_readStatement : GoodIn wsX11_carryOutText (wsV RX11 372 RX5 yX5_readStatement wsX5_readStatement) := goodIn_app (goodIn_of _ (by decide +kernel)) ggX11_carryOutText_X5_readStatement
theorem dX11_carryOutText_30 : decode cX11_carryOutText 30 = .ok (.invokevirtual 372, 3) := by decide +kernel
theorem dX11_carryOutText_33 : decode cX11_carryOutText 33 = .ok (.istore_n 1, 1) := by decide +kernel
theorem dX11_carryOutText_34 : decode cX11_carryOutText 34 = .ok (.iinc 2 1, 3) := by decide +kernel
theorem dX11_carryOutText_37 : decode cX11_carryOutText 37 = .ok (.goto (-26), 3) := by decide +kernel
theorem dX11_carryOutText_40 : decode cX11_carryOutText 40 = .ok (.aload_n 0, 1) := by decide +kernel
theorem dX11_carryOutText_41 : decode cX11_carryOutText 41 = .ok (.getfield 71, 3) := by decide +kernel
theorem dX11_carryOutText_44 : decode cX11_carryOutText 44 = .ok (.getfield 328, 3) := by decide +kernel
theorem dX11_carryOutText_47 : decode cX11_carryOutText 47 = .ok (.ifCond .eq 5, 3) := by decide +kernel
theorem dX11_carryOutText_52 : decode cX11_carryOutText 52 = .ok (.iconst 0, 1) := by decide +kernel
theorem dX11_carryOutText_53 : decode cX11_carryOutText 53 = .ok (.istore_n 2, 1) := by decide +kernel
theorem dX11_carryOutText_54 : decode cX11_carryOutText 54 = .ok (.iload_n 2, 1) := by decide +kernel
theorem dX11_carryOutText_55 : decode cX11_carryOutText 55 = .ok (.bipush 8, 2) := by decide +kernel
theorem dX11_carryOutText_57 : decode cX11_carryOutText 57 = .ok (.if_icmp .ge 24, 3) := by decide +kernel
theorem dX11_carryOutText_60 : decode cX11_carryOutText 60 = .ok (.aload_n 0, 1) := by decide +kernel
theorem dX11_carryOutText_61 : decode cX11_carryOutText 61 = .ok (.getfield 22, 3) := by decide +kernel
theorem dX11_carryOutText_64 : decode cX11_carryOutText 64 = .ok (.iload_n 2, 1) := by decide +kernel
theorem dX11_carryOutText_65 : decode cX11_carryOutText 65 = .ok (.aaload, 1) := by decide +kernel
theorem dX11_carryOutText_66 : decode cX11_carryOutText 66 = .ok (.aload_n 0, 1) := by decide +kernel
theorem dX11_carryOutText_67 : decode cX11_carryOutText 67 = .ok (.getfield 18, 3) := by decide +kernel
theorem dX11_carryOutText_70 : decode cX11_carryOutText 70 = .ok (.iload_n 2, 1) := by decide +kernel
theorem dX11_carryOutText_71 : decode cX11_carryOutText 71 = .ok (.aaload, 1) := by decide +kernel
set_option maxRecDepth 20000 in
theorem ggX11_carryOutText_X9_takeOver : GoodIn wsX11_carryOutText wsX9_takeOver := goodIn_r _ [152, 153, 154, 116, 117, 118, 155, 439, 440] (by decide +kernel) (by decide +kernel)
set_option maxRecDepth 20000 in
theorem gX11_carryOutText_X9_takeOver : GoodIn wsX11_carryOutText (wsV RX11 153 RX9 yX9_takeOver wsX9_takeOver) := goodIn_app (goodIn_of _ (by decide +kernel)) ggX11_carryOutText_X9_takeOver
theorem dX11_carryOutText_72 : decode cX11_carryOutText 72 = .ok (.invokevirtual 153, 3) := by decide +kernel
theorem dX11_carryOutText_75 : decode cX11_carryOutText 75 = .ok (.iinc 2 1, 3) := by decide +kernel
theorem dX11_carryOutText_78 : decode cX11_carryOutText 78 = .ok (.goto (-24), 3) := by decide +kernel
theorem dX11_carryOutText_81 : decode cX11_carryOutText 81 = .ok (.aload_n 0, 1) := by decide +kernel
theorem dX11_carryOutText_82 : decode cX11_carryOutText 82 = .ok (.getfield 71, 3) := by decide +kernel
theorem dX11_carryOutText_85 : decode cX11_carryOutText 85 = .ok (.invokevirtual 369, 3) := by decide +kernel
theorem dX11_carryOutText_88 : decode cX11_carryOutText 88 = .ok (.iconst 0, 1) := by decide +kernel
theorem dX11_carryOutText_89 : decode cX11_carryOutText 89 = .ok (.istore_n 2, 1) := by decide +kernel
theorem dX11_carryOutText_90 : decode cX11_carryOutText 90 = .ok (.iload_n 2, 1) := by decide +kernel
theorem dX11_carryOutText_91 : decode cX11_carryOutText 91 = .ok (.sipush 160, 3) := by decide +kernel
theorem dX11_carryOutText_94 : decode cX11_carryOutText 94 = .ok (.if_icmp .gt 54, 3) := by decide +kernel
theorem dX11_carryOutText_97 : decode cX11_carryOutText 97 = .ok (.aload_n 0, 1) := by decide +kernel
theorem dX11_carryOutText_98 : decode cX11_carryOutText 98 = .ok (.getfield 71, 3) := by decide +kernel
theorem dX11_carryOutText_101 : decode cX11_carryOutText 101 = .ok (.aload_n 0, 1) := by decide +kernel
theorem dX11_carryOutText_102 : decode cX11_carryOutText 102 = .ok (.getfield 33, 3) := by decide +kernel
theorem dX11_carryOutText_105 : decode cX11_carryOutText 105 = .ok (.invokevirtual 372, 3) := by decide +kernel
theorem dX11_carryOutText_108 : decode cX11_carryOutText 108 = .ok (.ifCond .eq 40, 3) := by decide +kernel
theorem dX11_carryOutText_148 : decode cX11_carryOutText 148 = .ok (.iload_n 2, 1) := by decide +kernel
theorem dX11_carryOutText_149 : decode cX11_carryOutText 149 = .ok (.ireturn, 1) := by decide +kernel
theorem dX11_errorKind_0 : decode cX11_errorKind 0 = .ok (.aload_n 0, 1) := by decide +kernel
theorem ggX11_errorKind_X11_carryOutText_h : GoodIn wsX11_errorKind [.code yX11_carryOutText cX11_carryOutText 3 (some .int)] := goodIn_r _ [6] (by decide +kernel) (by decide +kernel)
theorem ggX11_errorKind_X11_carryOutText_0 : GoodIn wsX11_errorKind wsX11_carryOutText_r1 := goodIn_r _ [1, 7, 8, 9, 10, 11, 12, 13, 14, 15, 16, 17, 18, 19, 20, 21, 22, 23, 24, 25, 26, 27, 28, 29] (by decide +kernel) (by decide +kernel)
theorem ggX11_errorKind_X11_carryOutText_1 : GoodIn wsX11_errorKind wsX11_carryOutText_r2 := goodIn_r _ [30, 31, 32, 33, 34, 35, 36, 37, 38, 39, 40, 41, 42, 43, 44, 45, 46, 47, 48, 49, 50, 51, 52, 53] (by decide +kernel) (by decide +kernel)
theorem ggX11_errorKind_X11_carryOutText_2 : GoodIn wsX11_errorKind wsX11_carryOutText_r3 := goodIn_r _ [54, 55, 56, 57, 58, 59, 60, 61, 62, 63, 64, 65, 66, 67, 68, 69, 70, 71, 72, 73, 74, 75, 76, 77] (by decide +kernel) (by decide +kernel)
theorem ggX11_errorKind_X11_carryOutText_3 : GoodIn wsX11_errorKind wsX11_carryOutText_r4 := goodIn_r _ [78, 79, 80, 81, 82, 83, 84, 85, 86, 87, 88, 89, 90, 91, 92, 93, 94, 95, 96, 97, 98, 99, 100, 101] (by decide +kernel) (by decide +kernel)
theorem ggX11_errorKind_X11_carryOutText_4 : GoodIn wsX11_errorKind wsX11_carryOutText_r5 := goodIn_r _ [102, 103, 104, 105, 106, 107, 108, 109, 110, 111, 112, 113, 114, 115, 116, 117, 118, 119, 120, 121, 122, 123, 124, 125] (by decide +kernel) (by decide +kernel)
theorem ggX11_errorKind_X11_carryOutText_5 : GoodIn wsX11_errorKind wsX11_carryOutText_r6 := goodIn_r _ [126, 127, 128, 129, 130, 131, 132, 133, 134, 135, 136, 137, 138, 139, 140, 141, 142, 143, 144, 145, 146, 147, 148, 149] (by decide +kernel) (by decide +kernel)
theorem ggX11_errorKind_X11_carryOutText_6 : GoodIn wsX11_errorKind wsX11_carryOutText_r7 := goodIn_r _ [150, 151, 152, 153, 154, 155, 156, 157, 158, 159, 160, 161, 162, 163, 5, 164, 165, 166, 167, 168, 169, 170, 171, 172] (by decide +kernel) (by decide +kernel)
theorem ggX11_errorKind_X11_carryOutText_7 : GoodIn wsX11_errorKind wsX11_carryOutText_r8 := goodIn_r _ [173, 174, 175, 176, 177, 178, 179, 180, 181, 182, 183, 184, 185, 186, 187, 188, 189, 190, 191, 192, 193, 194, 195, 196] (by decide +kernel) (by decide +kernel)
theorem ggX11_errorKind_X11_carryOutText_8 : GoodIn wsX11_errorKind wsX11_carryOutText_r9 := goodIn_r _ [197, 198, 199, 200, 201, 202, 203, 204, 205, 206, 207, 208, 209, 210, 211, 212, 213, 214, 215, 216, 217, 218, 219, 220] (by decide +kernel) (by decide +kernel)
theorem ggX11_errorKind_X11_carryOutText_9 : GoodIn wsX11_errorKind wsX11_carryOutText_r10 := goodIn_r _ [221, 222, 223, 224, 225, 226, 227, 228, 229, 230, 231, 232, 233, 234, 235, 236, 237, 238, 239, 240, 241, 242, 243, 244] (by decide +kernel) (by decide +kernel)
theorem ggX11_errorKind_X11_carryOutText_10 : GoodIn wsX11_errorKind wsX11_carryOutText_r11 := goodIn_r _ [245, 246, 247, 248, 249, 250, 251, 252, 253, 254, 255, 256, 257, 258, 259, 260, 261, 262, 263, 264, 265, 266, 267, 268] (by decide +kernel) (by decide +kernel)
theorem ggX11_errorKind_X11_carryOutText_11 : GoodIn wsX11_errorKind wsX11_carryOutText_r12 := goodIn_r _ [269, 270, 271, 272, 273, 274, 275, 276, 277, 278, 279, 280, 281, 282, 283, 284, 285, 286, 287, 288, 289, 290, 291, 292] (by decide +kernel) (by decide +kernel)
theorem ggX11_errorKind_X11_carryOutText_12 : GoodIn wsX11_errorKind wsX11_carryOutText_r13 := goodIn_r _ [293, 294, 295, 296, 297, 298, 299, 300, 301, 302, 303, 304, 305, 306, 307, 308, 309, 310, 311, 312, 313, 314, 315, 316] (by decide +kernel) (by decide +kernel)
theorem ggX11_errorKind_X11_carryOutText_13 : GoodIn wsX11_errorKind wsX11_carryOutText_r14 := goodIn_r _ [317, 318, 319, 320, 321, 322, 323, 324, 325, 326, 327, 328, 329, 330, 331, 332, 333, 334, 335, 336, 337, 338, 339, 340] (by decide +kernel) (by decide +kernel)
theorem ggX11_errorKind_X11_carryOutText_14 : GoodIn wsX11_errorKind wsX11_carryOutText_r15 := goodIn_r _ [341, 342, 343, 344, 345, 346, 347, 348, 349, 350, 351, 352, 353, 354, 355, 356, 357, 358, 359, 360, 361, 362, 363, 364] (by decide +kernel) (by decide +kernel)
theorem ggX11_errorKind_X11_carryOutText_15 : GoodIn wsX11_errorKind wsX11_carryOutText_r16 := goodIn_r _ [365, 366, 367, 368, 369, 370, 371, 372, 373, 374, 375, 376, 377, 378, 379, 380, 381, 382, 383, 384, 385, 386, 387, 388] (by decide +kernel) (by decide +kernel)
theorem ggX11_errorKind_X11_carryOutText_16 : GoodIn wsX11_errorKind wsX11_carryOutText_r17 := goodIn_r _ [389, 390, 391, 392, 393, 394, 395, 396, 397, 398, 399, 400, 401, 402, 403, 404, 405, 406, 407, 408, 409] (by decide +kernel) (by decide +kernel)
theorem ggX11_errorKind_X11_carryOutText_17 : GoodIn wsX11_errorKind wsX110 := goodIn_r _ [410, 411, 412, 413, 414, 415, 416, 417, 418, 419, 420, 421, 422] (by decide +kernel) (by decide +kernel)
theorem ggX11_errorKind_X11_carryOutText_18 : GoodIn wsX11_errorKind wsX50 := goodIn_r _ [423, 424, 425, 426, 427, 428, 429, 430, 431, 432, 433, 434, 435] (by decide +kernel) (by decide +kernel)
theorem ggX11_errorKind_X11_carryOutText_19 : GoodIn wsX11_errorKind wsX100 := goodIn_r _ [436, 437] (by decide +kernel) (by decide +kernel)
theorem ggX11_errorKind_X11_carryOutText_20 : GoodIn wsX11_errorKind wsX80 := goodIn_r _ [438, 439, 440, 441, 442] (by decide +kernel) (by decide +kernel)
theorem ggX11_errorKind_X11_carryOutText_21 : GoodIn wsX11_errorKind wsX90 := goodIn_r _ [443, 444] (by decide +kernel) (by decide +kernel)
theorem ggX11_errorKind_X11_carryOutText_22 : GoodIn wsX11_errorKind wsX20 := goodIn_r _ [445, 446, 447, 448, 449, 450, 451, 452, 453, 454, 455, 456, 457, 458, 459] (by decide +kernel) (by decide +kernel)
theorem ggX11_errorKind_X11_carryOutText_23 : GoodIn wsX11_errorKind wsX70 := goodIn_r _ [460, 461, 462, 463, 464] (by decide +kernel) (by decide +kernel)
theorem ggX11_errorKind_X11_carryOutText_24 : GoodIn wsX11_errorKind wsX60 := goodIn_r _ [465, 466, 467] (by decide +kernel) (by decide +kernel)
theorem ggX11_errorKind_X11_carryOutText_25 : GoodIn wsX11_errorKind wsX00 := goodIn_r _ [468, 469, 470] (by decide +kernel) (by decide +kernel)
theorem ggX11_errorKind_X11_carryOutText_26 : GoodIn wsX11_errorKind wsX30 := goodIn_r _ [471, 472, 473, 474, 475, 476] (by decide +kernel) (by decide +kernel)
set_option maxRecDepth 20000 in
theorem ggX11_errorKind_X11_carryOutText : GoodIn wsX11_errorKind wsX11_carryOutText := (fun w h => (List.mem_cons.mp h).elim (fun e => ggX11_errorKind_X11_carryOutText_h w (List.mem_singleton.mpr e)) (fun h => (goodIn_app (goodIn_app (goodIn_app (goodIn_app (goodIn_app (goodIn_app (goodIn_app (goodIn_app (goodIn_app (goodIn_app (goodIn_app ggX11_errorKind_X11_carryOutText_0 (goodIn_app ggX11_errorKind_X11_carryOutText_1 (goodIn_app ggX11_errorKind_X11_carryOutText_2 (goodIn_app ggX11_errorKind_X11_carryOutText_3 (goodIn_app ggX11_errorKind_X11_carryOutText_4 (goodIn_app ggX11_errorKind_X11_carryOutText_5 (goodIn_app ggX11_errorKind_X11_carryOutText_6 (goodIn_app ggX11_errorKind_X11_carryOutText_7 (goodIn_app ggX11_errorKind_X11_carryOutText_8 (goodIn_app ggX11_errorKind_X11_carryOutText_9 (goodIn_app ggX11_errorKind_X11_carryOutText_10 (goodIn_app ggX11_errorKind_X11_carryOutText_11 (goodIn_app ggX11_errorKind_X11_carryOutText_12 (goodIn_app ggX11_errorKind_X11_carryOutText_13 (goodIn_app ggX11_errorKind_X11_carryOutText_14 (goodIn_app ggX11_errorKind_X11_carryOutText_15 ggX11_errorKind_X11_carryOutText_16)))))))))))))))) ggX11_errorKind_X11_carryOutText_17) ggX11_errorKind_X11_carryOutText_18) ggX11_errorKind_X11_carryOutText_19) ggX11_errorKind_X11_carryOutText_20) ggX11_errorKind_X11_carryOutText_21) ggX11_errorKind_X11_carryOutText_22) ggX11_errorKind_X11_carryOutText_23) ggX11_errorKind_X11_carryOutText_24) ggX11_errorKind_X11_carryOutText_25) ggX11_errorKind_X11_carryOutText_26) w h))
set_option maxRecDepth 20000 in
theorem gX11_errorKind_X11_carryOutText : GoodIn wsX11_errorKind (wsV RX11 325 RX11 yX11_carryOutText wsX11_carryOutText) := goodIn_app (goodIn_of _ (by decide +kernel)) ggX11_errorKind_X11_carryOutText
theorem dX11_errorKind_1 : decode cX11_errorKind 1 = .ok (.invokevirtual 325, 3) := by decide +kernel
theorem dX11_errorKind_4 : decode cX11_errorKind 4 = .ok (.pop, 1) := by decide +kernel
theorem dX11_errorKind_5 : decode cX11_errorKind 5 = .ok (.aload_n 0, 1) := by decide +kernel
theorem dX11_errorKind_6 : decode cX11_errorKind 6 = .ok (.getfield 71, 3) := by decide +kernel
theorem dX11_errorKind_9 : decode cX11_errorKind 9 = .ok (.getfield 328, 3) := by decide +kernel
theorem dX11_errorKind_12 : decode cX11_errorKind 12 = .ok (.ireturn, 1) := by decide +kernel
theorem dX11_errorPlace_0 : decode cX11_errorPlace 0 = .ok (.aload_n 0, 1) := by decide +kernel
theorem ggX11_errorPlace_X11_carryOutText_h : GoodIn wsX11_errorPlace [.code yX11_carryOutText cX11_carryOutText 3 (some .int)] := goodIn_r _ [6] (by decide +kernel) (by decide +kernel)
theorem ggX11_errorPlace_X11_carryOutText_0 : GoodIn wsX11_errorPlace wsX11_carryOutText_r1 := goodIn_r _ [1, 7, 8, 9, 10, 11, 12, 13, 14, 15, 16, 17, 18, 19, 20, 21, 22, 23, 24, 25, 26, 27, 28, 29] (by decide +kernel) (by decide +kernel)
theorem ggX11_errorPlace_X11_carryOutText_1 : GoodIn wsX11_errorPlace wsX11_carryOutText_r2 := goodIn_r _ [30, 31, 32, 33, 34, 35, 36, 37, 38, 39, 40, 41, 42, 43, 44, 45, 46, 47, 48, 49, 50, 51, 52, 53] (by decide +kernel) (by decide +kernel)
theorem ggX11_errorPlace_X11_carryOutText_2 : GoodIn wsX11_errorPlace wsX11_carryOutText_r3 := goodIn_r _ [54, 55, 56, 57, 58, 59, 60, 61, 62, 63, 64, 65, 66, 67, 68, 69, 70, 71, 72, 73, 74, 75, 76, 77] (by decide +kernel) (by decide +kernel)
theorem ggX11_errorPlace_X11_carryOutText_3 : GoodIn wsX11_errorPlace wsX11_carryOutText_r4 := goodIn_r _ [78, 79, 80, 81, 82, 83, 84, 85, 86, 87, 88, 89, 90, 91, 92, 93, 94, 95, 96, 97, 98, 99, 100, 101] (by decide +kernel) (by decide +kernel)
theorem ggX11_errorPlace_X11_carryOutText_4 : GoodIn wsX11_errorPlace wsX11_carryOutText_r5 := goodIn_r _ [102, 103, 104, 105, 106, 107, 108, 109, 110, 111, 112, 113, 114, 115, 116, 117, 118, 119, 120, 121, 122, 123, 124, 125] (by decide +kernel) (by decide +kernel)
theorem ggX11_errorPlace_X11_carryOutText_5 : GoodIn wsX11_errorPlace wsX11_carryOutText_r6 := goodIn_r _ [126, 127, 128, 129, 130, 131, 132, 133, 134, 135, 136, 137, 138, 139, 140, 141, 142, 143, 144, 145, 146, 147, 148, 149] (by decide +kernel) (by decide +kernel)
theorem ggX11_errorPlace_X11_carryOutText_6 : GoodIn wsX11_errorPlace wsX11_carryOutText_r7 := goodIn_r _ [150, 151, 152, 153, 154, 155, 156, 157, 158, 159, 160, 161, 162, 163, 5, 164, 165, 166, 167, 168, 169, 170, 171, 172] (by decide +kernel) (by decide +kernel)
theorem ggX11_errorPlace_X11_carryOutText_7 : GoodIn wsX11_errorPlace wsX11_carryOutText_r8 := goodIn_r _ [173, 174, 175, 176, 177, 178, 179, 180, 181, 182, 183, 184, 185, 186, 187, 188, 189, 190, 191, 192, 193, 194, 195, 196] (by decide +kernel) (by decide +kernel)
theorem ggX11_errorPlace_X11_carryOutText_8 : GoodIn wsX11_errorPlace wsX11_carryOutText_r9 := goodIn_r _ [197, 198, 199, 200, 201, 202, 203, 204, 205, 206, 207, 208, 209, 210, 211, 212, 213, 214, 215, 216, 217, 218, 219, 220] (by decide +kernel) (by decide +kernel)
theorem ggX11_errorPlace_X11_carryOutText_9 : GoodIn wsX11_errorPlace wsX11_carryOutText_r10 := goodIn_r _ [221, 222, 223, 224, 225, 226, 227, 228, 229, 230, 231, 232, 233, 234, 235, 236, 237, 238, 239, 240, 241, 242, 243, 244] (by decide +kernel) (by decide +kernel)
theorem ggX11_errorPlace_X11_carryOutText_10 : GoodIn wsX11_errorPlace wsX11_carryOutText_r11 := goodIn_r _ [245, 246, 247, 248, 249, 250, 251, 252, 253, 254, 255, 256, 257, 258, 259, 260, 261, 262, 263, 264, 265, 266, 267, 268] (by decide +kernel) (by decide +kernel)
theorem ggX11_errorPlace_X11_carryOutText_11 : GoodIn wsX11_errorPlace wsX11_carryOutText_r12 := goodIn_r _ [269, 270, 271, 272, 273, 274, 275, 276, 277, 278, 279, 280, 281, 282, 283, 284, 285, 286, 287, 288, 289, 290, 291, 292] (by decide +kernel) (by decide +kernel)
theorem ggX11_errorPlace_X11_carryOutText_12 : GoodIn wsX11_errorPlace wsX11_carryOutText_r13 := goodIn_r _ [293, 294, 295, 296, 297, 298, 299, 300, 301, 302, 303, 304, 305, 306, 307, 308, 309, 310, 311, 312, 313, 314, 315, 316] (by decide +kernel) (by decide +kernel)
theorem ggX11_errorPlace_X11_carryOutText_13 : GoodIn wsX11_errorPlace wsX11_carryOutText_r14 := goodIn_r _ [317, 318, 319, 320, 321, 322, 323, 324, 325, 326, 327, 328, 329, 330, 331, 332, 333, 334, 335, 336, 337, 338, 339, 340] (by decide +kernel) (by decide +kernel)
theorem ggX11_errorPlace_X11_carryOutText_14 : GoodIn wsX11_errorPlace wsX11_carryOutText_r15 := goodIn_r _ [341, 342, 343, 344, 345, 346, 347, 348, 349, 350, 351, 352, 353, 354, 355, 356, 357, 358, 359, 360, 361, 362, 363, 364] (by decide +kernel) (by decide +kernel)
theorem ggX11_errorPlace_X11_carryOutText_15 : GoodIn wsX11_errorPlace wsX11_carryOutText_r16 := goodIn_r _ [365, 366, 367, 368, 369, 370, 371, 372, 373, 374, 375, 376, 377, 378, 379, 380, 381, 382, 383, 384, 385, 386, 387, 388] (by decide +kernel) (by decide +kernel)
theorem ggX11_errorPlace_X11_carryOutText_16 : GoodIn wsX11_errorPlace wsX11_carryOutText_r17 := goodIn_r _ [389, 390, 391, 392, 393, 394, 395, 396, 397, 398, 399, 400, 401, 402, 403, 404, 405, 406, 407, 408, 409] (by decide +kernel) (by decide +kernel)
theorem ggX11_errorPlace_X11_carryOutText_17 : GoodIn wsX11_errorPlace wsX110 := goodIn_r _ [410, 411, 412, 413, 414, 415, 416, 417, 418, 419, 420, 421, 422] (by decide +kernel) (by decide +kernel)
theorem ggX11_errorPlace_X11_carryOutText_18 : GoodIn wsX11_errorPlace wsX50 := goodIn_r _ [423, 424, 425, 426, 427, 428, 429, 430, 431, 432, 433, 434, 435] (by decide +kernel) (by decide +kernel)
theorem ggX11_errorPlace_X11_carryOutText_19 : GoodIn wsX11_errorPlace wsX100 := goodIn_r _ [436, 437] (by decide +kernel) (by decide +kernel)
theorem ggX11_errorPlace_X11_carryOutText_20 : GoodIn wsX11_errorPlace wsX80 := goodIn_r _ [438, 439, 440, 441, 442] (by decide +kernel) (by decide +kernel)
theorem ggX11_errorPlace_X11_carryOutText_21 : GoodIn wsX11_errorPlace wsX90 := goodIn_r _ [443, 444] (by decide +kernel) (by decide +kernel)
theorem ggX11_errorPlace_X11_carryOutText_22 : GoodIn wsX11_errorPlace wsX20 := goodIn_r _ [445, 446, 447, 448, 449, 450, 451, 452, 453, 454, 455, 456, 457, 458, 459] (by decide +kernel) (by decide +kernel)
theorem ggX11_errorPlace_X11_carryOutText_23 : GoodIn wsX11_errorPlace wsX70 := goodIn_r _ [460, 461, 462, 463, 464] (by decide +kernel) (by decide +kernel)
theorem ggX11_errorPlace_X11_carryOutText_24 : GoodIn wsX11_errorPlace wsX60 := goodIn_r _ [465, 466, 467] (by decide +kernel) (by decide +kernel)
theorem ggX11_errorPlace_X11_carryOutText_25 : GoodIn wsX11_errorPlace wsX00 := goodIn_r _ [468, 469, 470] (by decide +kernel) (by decide +kernel)
theorem ggX11_errorPlace_X11_carryOutText_26 : GoodIn wsX11_errorPlace wsX30 := goodIn_r _ [471, 472, 473, 474, 475, 476] (by decide +kernel) (by decide +kernel)
set_option maxRecDepth 20000 in
theorem ggX11_errorPlace_X11_carryOutText : GoodIn wsX11_errorPlace wsX11_carryOutText := (fun w h => (List.mem_cons.mp h).elim (fun e => ggX11_errorPlace_X11_carryOutText_h w (List.mem_singleton.mpr e)) (fun h => (goodIn_app (goodIn_app (goodIn_app (goodIn_app (goodIn_app (goodIn_app (goodIn_app (goodIn_app (goodIn_app (goodIn_app (goodIn_app ggX11_errorPlace_X11_carryOutText_0 (goodIn_app ggX11_errorPlace_X11_carryOutText_1 (goodIn_app ggX11_errorPlace_X11_carryOutText_2 (goodIn_app ggX11_errorPlace_X11_carryOutText_3 (goodIn_app ggX11_errorPlace_X11_carryOutText_4 (goodIn_app ggX11_errorPlace_X11_carryOutText_5 (goodIn_app ggX11_errorPlace_X11_carryOutText_6 (goodIn_app ggX11_errorPlace_X11_carryOutText_7 (goodIn_app ggX11_errorPlace_X11_carryOutText_8 (goodIn_app ggX11_errorPlace_X11_carryOutText_9 (goodIn_app ggX11_errorPlace_X11_carryOutText_10 (goodIn_app ggX11_errorPlace_X11_carryOutText_11 (goodIn_app ggX11_errorPlace_X11_carryOutText_12 (goodIn_app ggX11_errorPlace_X11_carryOutText_13 (goodIn_app ggX11_errorPlace_X11_carryOutText_14 (goodIn_app ggX11_errorPlace_X11_carryOutText_15 ggX11_errorPlace_X11_carryOutText_16)))))))))))))))) ggX11_errorPlace_X11_carryOutText_17) ggX11_errorPlace_X11_carryOutText_18) ggX11_errorPlace_X11_carryOutText_19) ggX11_errorPlace_X11_carryOutText_20) ggX11_errorPlace_X11_carryOutText_21) ggX11_errorPlace_X11_carryOutText_22) ggX11_errorPlace_X11_carryOutText_23) ggX11_errorPlace_X11_carryOutText_24) ggX11_errorPlace_X11_carryOutText_25) ggX11_errorPlace_X11_carryOutText_26) w h))
set_option maxRecDepth 20000 in
theorem gX11_errorPlace_X11_carryOutText : GoodIn wsX11_errorPlace (wsV RX11 325 RX11 yX11_carryOutText wsX11_carryOutText) := goodIn_app (goodIn_of _ (by decide +kernel)) ggX11_errorPlace_X11_carryOutText
theorem dX11_errorPlace_1 : decode cX11_errorPlace 1 = .ok (.invokevirtual 325, 3) := by decide +kernel
theorem dX11_errorPlace_4 : decode cX11_errorPlace 4 = .ok (.pop, 1) := by decide +kernel
theorem dX11_errorPlace_5 : decode cX11_errorPlace 5 = .ok (.aload_n 0, 1) := by decide +kernel
theorem dX11_errorPlace_6 : decode cX11_errorPlace 6 = .ok (.getfield 71, 3) := by decide +kernel
theorem dX11_errorPlace_9 : decode cX11_errorPlace 9 = .ok (.getfield 331, 3) := by decide +kernel
theorem dX11_errorPlace_12 : decode cX11_errorPlace 12 = .ok (.ireturn, 1) := by decide +kernel
theorem dX11_run_0 : decode cX11_run 0 = .ok (.aload_n 0, 1) := by decide +kernel
theorem ggX11_run_X11_carryOutText_h : GoodIn wsX11_run [.code yX11_carryOutText cX11_carryOutText 3 (some .int)] := goodIn_r _ [10] (by decide +kernel) (by decide +kernel)
theorem ggX11_run_X11_carryOutText_0 : GoodIn wsX11_run wsX11_carryOutText_r1 := goodIn_r _ [3, 11, 5, 4, 12, 13, 14, 15, 16, 17, 18, 19, 20, 21, 22, 23, 24, 25, 26, 27, 28, 29, 30, 31] (by decide +kernel) (by decide +kernel)
theorem ggX11_run_X11_carryOutText_1 : GoodIn wsX11_run wsX11_carryOutText_r2 := goodIn_r _ [32, 33, 34, 35, 36, 37, 38, 39, 40, 41, 42, 43, 44, 45, 46, 47, 48, 49, 50, 51, 52, 53, 54, 55] (by decide +kernel) (by decide +kernel)
theorem ggX11_run_X11_carryOutText_2 : GoodIn wsX11_run wsX11_carryOutText_r3 := goodIn_r _ [56, 57, 58, 59, 60, 61, 62, 63, 64, 65, 66, 67, 68, 69, 70, 71, 72, 73, 74, 75, 76, 77, 78, 79] (by decide +kernel) (by decide +kernel)
theorem ggX11_run_X11_carryOutText_3 : GoodIn wsX11_run wsX11_carryOutText_r4 := goodIn_r _ [80, 81, 82, 83, 84, 85, 86, 87, 88, 89, 90, 91, 92, 93, 94, 95, 96, 97, 98, 99, 100, 101, 102, 103] (by decide +kernel) (by decide +kernel)
theorem ggX11_run_X11_carryOutText_4 : GoodIn wsX11_run wsX11_carryOutText_r5 := goodIn_r _ [104, 105, 106, 107, 108, 109, 110, 111, 112, 113, 114, 115, 116, 117, 118, 119, 120, 121, 122, 123, 124, 125, 126, 127] (by decide +kernel) (by decide +kernel)
theorem ggX11_run_X11_carryOutText_5 : GoodIn wsX11_run wsX11_carryOutText_r6 := goodIn_r _ [128, 129, 130, 131, 132, 133, 134, 135, 136, 137, 138, 139, 140, 141, 142, 143, 144, 145, 146, 147, 148, 149, 150, 151] (by decide +kernel) (by decide +kernel)
theorem ggX11_run_X11_carryOutText_6 : GoodIn wsX11_run wsX11_carryOutText_r7 := goodIn_r _ [152, 153, 154, 155, 156, 157, 158, 159, 160, 161, 162, 163, 164, 165, 9, 166, 167, 168, 169, 170, 171, 172, 173, 174] (by decide +kernel) (by decide +kernel)
theorem ggX11_run_X11_carryOutText_7 : GoodIn wsX11_run wsX11_carryOutText_r8 := goodIn_r _ [175, 176, 177, 178, 179, 180, 181, 182, 183, 184, 185, 186, 187, 188, 189, 190, 191, 192, 193, 194, 195, 196, 197, 198] (by decide +kernel) (by decide +kernel)
theorem ggX11_run_X11_carryOutText_8 : GoodIn wsX11_run wsX11_carryOutText_r9 := goodIn_r _ [199, 200, 201, 202, 203, 204, 205, 206, 207, 208, 209, 210, 211, 212, 213, 214, 215, 216, 217, 218, 219, 220, 221, 222] (by decide +kernel) (by decide +kernel)
theorem ggX11_run_X11_carryOutText_9 : GoodIn wsX11_run wsX11_carryOutText_r10 := goodIn_r _ [223, 224, 225, 226, 227, 228, 229, 230, 231, 232, 233, 234, 235, 236, 237, 238, 239, 240, 241, 242, 243, 244, 245, 246] (by decide +kernel) (by decide +kernel)
theorem ggX11_run_X11_carryOutText_10 : GoodIn wsX11_run wsX11_carryOutText_r11 := goodIn_r _ [247, 248, 249, 250, 251, 252, 253, 254, 255, 256, 257, 258, 259, 260, 261, 262, 263, 264, 265, 266, 267, 268, 269, 270] (by decide +kernel) (by decide +kernel)
theorem ggX11_run_X11_carryOutText_11 : GoodIn wsX11_run wsX11_carryOutText_r12 := goodIn_r _ [271, 272, 273, 274, 275, 276, 277, 278, 279, 280, 281, 282, 283, 284, 285, 286, 287, 288, 289, 290, 291, 292, 293, 294] (by decide +kernel) (by decide +kernel)
theorem ggX11_run_X11_carryOutText_12 : GoodIn wsX11_run wsX11_carryOutText_r13 := goodIn_r _ [295, 296, 297, 298, 299, 300, 301, 302, 303, 304, 305, 306, 307, 308, 309, 310, 311, 312, 313, 314, 315, 316, 317, 318] (by decide +kernel) (by decide +kernel)
theorem ggX11_run_X11_carryOutText_13 : GoodIn wsX11_run wsX11_carryOutText_r14 := goodIn_r _ [319, 320, 321, 322, 323, 324, 325, 326, 327, 328, 329, 330, 331, 332, 333, 334, 335, 336, 337, 338, 339, 340, 341, 342] (by decide +kernel) (by decide +kernel)
theorem ggX11_run_X11_carryOutText_14 : GoodIn wsX11_run wsX11_carryOutText_r15 := goodIn_r _ [343, 344, 345, 346, 347, 348, 349, 350, 351, 352, 353, 354, 355, 356, 357, 358, 359, 360, 361, 362, 363, 364, 365, 366] (by decide +kernel) (by decide +kernel)
theorem ggX11_run_X11_carryOutText_15 : GoodIn wsX11_run wsX11_carryOutText_r16 := goodIn_r _ [367, 368, 369, 370, 371, 372, 373, 374, 375, 376, 377, 378, 379, 380, 381, 382, 383, 384, 385, 386, 387, 388, 389, 390] (by decide +kernel) (by decide +kernel)
theorem ggX11_run_X11_carryOutText_16 : GoodIn wsX11_run wsX11_carryOutText_r17 := goodIn_r _ [391, 392, 393, 394, 395, 396, 397, 398, 399, 400, 401, 402, 403, 404, 405, 406, 407, 408, 409, 410, 411] (by decide +kernel) (by decide +kernel)
theorem ggX11_run_X11_carryOutText_17 : GoodIn wsX11_run wsX110 := goodIn_r _ [412, 413, 414, 415, 416, 417, 418, 419, 420, 421, 422, 423, 424] (by decide +kernel) (by decide +kernel)
theorem ggX11_run_X11_carryOutText_18 : GoodIn wsX11_run wsX50 := goodIn_r _ [425, 426, 427, 428, 429, 430, 431, 432, 433, 434, 435, 436, 437] (by decide +kernel) (by decide +kernel)
theorem ggX11_run_X11_carryOutText_19 : GoodIn wsX11_run wsX100 := goodIn_r _ [438, 439] (by decide +kernel) (by decide +kernel)
theorem ggX11_run_X11_carryOutText_20 : GoodIn wsX11_run wsX80 := goodIn_r _ [440, 441, 442, 443, 444] (by decide +kernel) (by decide +kernel)
theorem ggX11_run_X11_carryOutText_21 : GoodIn wsX11_run wsX90 := goodIn_r _ [445, 446] (by decide +kernel) (by decide +kernel)
theorem ggX11_run_X11_carryOutText_22 : GoodIn wsX11_run wsX20 := goodIn_r _ [447, 448, 449, 450, 451, 452, 453, 454, 455, 456, 457, 458, 459, 460, 461] (by decide +kernel) (by decide +kernel)
theorem ggX11_run_X11_carryOutText_23 : GoodIn wsX11_run wsX70 := goodIn_r _ [462, 463, 464, 465, 466] (by decide +kernel) (by decide +kernel)
theorem ggX11_run_X11_carryOutText_24 : GoodIn wsX11_run wsX60 := goodIn_r _ [467, 468, 469] (by decide +kernel) (by decide +kernel)
theorem ggX11_run_X11_carryOutText_25 : GoodIn wsX11_run wsX00 := goodIn_r _ [470, 471, 472] (by decide +kernel) (by decide +kernel)
theorem ggX11_run_X11_carryOutText_26 : GoodIn wsX11_run wsX30 := goodIn_r _ [473, 474, 475, 476, 477, 478] (by decide +kernel) (by decide +kernel)
set_option maxRecDepth 20000 in
theorem ggX11_run_X11_carryOutText : GoodIn wsX11_run wsX11_carryOutText := (fun w h => (List.mem_cons.mp h).elim (fun e => ggX11_run_X11_carryOutText_h w (List.mem_singleton.mpr e)) (fun h => (goodIn_app (goodIn_app (goodIn_app (goodIn_app (goodIn_app (goodIn_app (goodIn_app (goodIn_app (goodIn_app (goodIn_app (goodIn_app ggX11_run_X11_carryOutText_0 (goodIn_app ggX11_run_X11_carryOutText_1 (goodIn_app ggX11_run_X11_carryOutText_2 (goodIn_app ggX11_run_X11_carryOutText_3 (goodIn_app ggX11_run_X11_carryOutText_4 (goodIn_app ggX11_run_X11_carryOutText_5 (goodIn_app ggX11_run_X11_carryOutText_6 (goodIn_app ggX11_run_X11_carryOutText_7 (goodIn_app ggX11_run_X11_carryOutText_8 (goodIn_app ggX11_run_X11_carryOutText_9 (goodIn_app ggX11_run_X11_carryOutText_10 (goodIn_app ggX11_run_X11_carryOutText_11 (goodIn_app ggX11_run_X11_carryOutText_12 (goodIn_app ggX11_run_X11_carryOutText_13 (goodIn_app ggX11_run_X11_carryOutText_14 (goodIn_app ggX11_run_X11_carryOutText_15 ggX11_run_X11_carryOutText_16)))))))))))))))) ggX11_run_X11_carryOutText_17) ggX11_run_X11_carryOutText_18) ggX11_run_X11_carryOutText_19) ggX11_run_X11_carryOutText_20) ggX11_run_X11_carryOutText_21) ggX11_run_X11_carryOutText_22) ggX11_run_X11_carryOutText_23) ggX11_run_X11_carryOutText_24) ggX11_run_X11_carryOutText_25) ggX11_run_X11_carryOutText_26) w h))
set_option maxRecDepth 20000 in
theorem gX11_run_X11_carryOutText : GoodIn wsX11_run (wsV RX11 325 RX11 yX11_carryOutText wsX11_carryOutText) := goodIn_app (goodIn_of _ (by decide +kernel)) ggX11_run_X11_carryOutText
theorem dX11_run_1 : decode cX11_run 1 = .ok (.invokevirtual 325, 3) := by decide +kernel
theorem dX11_run_4 : decode cX11_run 4 = .ok (.istore_n 1, 1) := by decide +kernel
theorem dX11_run_5 : decode cX11_run 5 = .ok (.aload_n 0, 1) := by decide +kernel
theorem dX11_run_6 : decode cX11_run 6 = .ok (.getfield 71, 3) := by decide +kernel
theorem dX11_run_9 : decode cX11_run 9 = .ok (.getfield 328, 3) := by decide +kernel
theorem dX11_run_12 : decode cX11_run 12 = .ok (.ifCond .eq 14, 3) := by decide +kernel
theorem dX11_run_26 : decode cX11_run 26 = .ok (.iconst 0, 1) := by decide +kernel
theorem dX11_run_27 : decode cX11_run 27 = .ok (.istore_n 2, 1) := by decide +kernel
theorem dX11_run_28 : decode cX11_run 28 = .ok (.iload_n 2, 1) := by decide +kernel
theorem dX11_run_29 : decode cX11_run 29 = .ok (.bipush 8, 2) := by decide +kernel
theorem dX11_run_31 : decode cX11_run 31 = .ok (.if_icmp .ge 24, 3) := by decide +kernel
theorem dX11_run_34 : decode cX11_run 34 = .ok (.aload_n 0, 1) := by decide +kernel
theorem dX11_run_35 : decode cX11_run 35 = .ok (.getfield 18, 3) := by decide +kernel
theorem dX11_run_38 : decode cX11_run 38 = .ok (.iload_n 2, 1) := by decide +kernel
theorem dX11_run_39 : decode cX11_run 39 = .ok (.aaload, 1) := by decide +kernel
theorem dX11_run_40 : decode cX11_run 40 = .ok (.aload_n 0, 1) := by decide +kernel
theorem dX11_run_41 : decode cX11_run 41 = .ok (.getfield 22, 3) := by decide +kernel
theorem dX11_run_44 : decode cX11_run 44 = .ok (.iload_n 2, 1) := by decide +kernel
theorem dX11_run_45 : decode cX11_run 45 = .ok (.aaload, 1) := by decide +kernel
set_option maxRecDepth 20000 in
theorem ggX11_run_X9_takeOver : GoodIn wsX11_run wsX9_takeOver := goodIn_r _ [159, 160, 161, 123, 124, 125, 162, 445, 446] (by decide +kernel) (by decide +kernel)
set_option maxRecDepth 20000 in
theorem gX11_run_X9_takeOver : GoodIn wsX11_run (wsV RX11 153 RX9 yX9_takeOver wsX9_takeOver) := goodIn_app (goodIn_of _ (by decide +kernel)) ggX11_run_X9_takeOver
theorem dX11_run_46 : decode cX11_run 46 = .ok (.invokevirtual 153, 3) := by decide +kernel
theorem dX11_run_49 : decode cX11_run 49 = .ok (.iinc 2 1, 3) := by decide +kernel
theorem dX11_run_52 : decode cX11_run 52 = .ok (.goto (-24), 3) := by decide +kernel
theorem dX11_run_55 : decode cX11_run 55 = .ok (.iload_n 1, 1) := by decide +kernel
theorem dX11_run_56 : decode cX11_run 56 = .ok (.ireturn, 1) := by decide +kernel
theorem dX11_meanKey_0 : decode cX11_meanKey 0 = .ok (.aload_n 0, 1) := by decide +kernel
theorem dX11_meanKey_1 : decode cX11_meanKey 1 = .ok (.iload_n 1, 1) := by decide +kernel
set_option maxRecDepth 20000 in
theorem ggX11_meanKey_X11_tapeOf : GoodIn wsX11_meanKey wsX11_tapeOf := goodIn_ca (goodIn_r _ [6, 7, 8, 9, 29, 30, 31, 32, 33, 34, 35, 36, 37, 38, 39, 40, 41] (by decide +kernel) (by decide +kernel)) (goodIn_sub (fun _ h => List.mem_cons_of_mem _ (List.mem_append_right _ h)) (by decide +kernel))
set_option maxRecDepth 20000 in
theorem gX11_meanKey_X11_tapeOf : GoodIn wsX11_meanKey (wsV RX11 86 RX11 yX11_tapeOf wsX11_tapeOf) := goodIn_app (goodIn_of _ (by decide +kernel)) ggX11_meanKey_X11_tapeOf
theorem dX11_meanKey_2 : decode cX11_meanKey 2 = .ok (.invokevirtual 86, 3) := by decide +kernel
theorem dX11_meanKey_5 : decode cX11_meanKey 5 = .ok (.astore_n 2, 1) := by decide +kernel
theorem dX11_meanKey_6 : decode cX11_meanKey 6 = .ok (.aload_n 2, 1) := by decide +kernel
theorem dX11_meanKey_7 : decode cX11_meanKey 7 = .ok (.getfield 105, 3) := by decide +kernel
theorem dX11_meanKey_10 : decode cX11_meanKey 10 = .ok (.ifCond .ne 5, 3) := by decide +kernel
theorem dX11_meanKey_13 : decode cX11_meanKey 13 = .ok (.dconst 0, 1) := by decide +kernel
theorem dX11_meanKey_14 : decode cX11_meanKey 14 = .ok (.dreturn, 1) := by decide +kernel
theorem dX11_sortedShare_0 : decode cX11_sortedShare 0 = .ok (.iconst 0, 1) := by decide +kernel
theorem dX11_sortedShare_1 : decode cX11_sortedShare 1 = .ok (.istore_n 1, 1) := by decide +kernel
theorem dX11_sortedShare_2 : decode cX11_sortedShare 2 = .ok (.iconst 0, 1) := by decide +kernel
theorem dX11_sortedShare_3 : decode cX11_sortedShare 3 = .ok (.istore_n 2, 1) := by decide +kernel
theorem dX11_sortedShare_4 : decode cX11_sortedShare 4 = .ok (.iload_n 2, 1) := by decide +kernel
theorem dX11_sortedShare_5 : decode cX11_sortedShare 5 = .ok (.bipush 8, 2) := by decide +kernel
theorem dX11_sortedShare_7 : decode cX11_sortedShare 7 = .ok (.if_icmp .ge 34, 3) := by decide +kernel
theorem dX11_sortedShare_10 : decode cX11_sortedShare 10 = .ok (.iload_n 1, 1) := by decide +kernel
theorem dX11_sortedShare_11 : decode cX11_sortedShare 11 = .ok (.aload_n 0, 1) := by decide +kernel
theorem dX11_sortedShare_12 : decode cX11_sortedShare 12 = .ok (.getfield 18, 3) := by decide +kernel
theorem dX11_sortedShare_15 : decode cX11_sortedShare 15 = .ok (.iload_n 2, 1) := by decide +kernel
theorem dX11_sortedShare_16 : decode cX11_sortedShare 16 = .ok (.aaload, 1) := by decide +kernel
theorem dX11_sortedShare_17 : decode cX11_sortedShare 17 = .ok (.aload_n 0, 1) := by decide +kernel
theorem dX11_sortedShare_18 : decode cX11_sortedShare 18 = .ok (.getfield 10, 3) := by decide +kernel
theorem dX11_sortedShare_21 : decode cX11_sortedShare 21 = .ok (.iconst 0, 1) := by decide +kernel
set_option maxRecDepth 20000 in
theorem ggX11_sortedShare_X9_isInOrder : GoodIn wsX11_sortedShare wsX9_isInOrder := goodIn_r _ [8, 9, 10, 11, 12, 7, 13, 14, 15, 16, 17, 18, 19, 20, 34, 35, 36, 37, 38] (by decide +kernel) (by decide +kernel)
set_option maxRecDepth 20000 in
theorem gX11_sortedShare_X9_isInOrder : GoodIn wsX11_sortedShare (wsV RX11 146 RX9 yX9_isInOrder wsX9_isInOrder) := goodIn_app (goodIn_of _ (by decide +kernel)) ggX11_sortedShare_X9_isInOrder
theorem dX11_sortedShare_22 : decode cX11_sortedShare 22 = .ok (.invokevirtual 146, 3) := by decide +kernel
theorem dX11_sortedShare_25 : decode cX11_sortedShare 25 = .ok (.ifCond .eq 7, 3) := by decide +kernel
theorem dX11_sortedShare_28 : decode cX11_sortedShare 28 = .ok (.iconst 1, 1) := by decide +kernel
theorem dX11_sortedShare_29 : decode cX11_sortedShare 29 = .ok (.goto 4, 3) := by decide +kernel
theorem dX11_sortedShare_33 : decode cX11_sortedShare 33 = .ok (.iadd, 1) := by decide +kernel
theorem dX11_sortedShare_34 : decode cX11_sortedShare 34 = .ok (.istore_n 1, 1) := by decide +kernel
theorem dX11_sortedShare_35 : decode cX11_sortedShare 35 = .ok (.iinc 2 1, 3) := by decide +kernel
theorem dX11_sortedShare_38 : decode cX11_sortedShare 38 = .ok (.goto (-34), 3) := by decide +kernel
theorem dX11_sortedShare_41 : decode cX11_sortedShare 41 = .ok (.iload_n 1, 1) := by decide +kernel
theorem dX11_sortedShare_42 : decode cX11_sortedShare 42 = .ok (.i2f, 1) := by decide +kernel
theorem dX11_sortedShare_43 : decode cX11_sortedShare 43 = .ok (.ldc_w 340, 3) := by decide +kernel
theorem dX11_sortedShare_46 : decode cX11_sortedShare 46 = .ok (.fdiv, 1) := by decide +kernel
theorem dX11_sortedShare_47 : decode cX11_sortedShare 47 = .ok (.freturn, 1) := by decide +kernel
theorem dX11_join_0 : decode cX11_join 0 = .ok (.aload_n 1, 1) := by decide +kernel
theorem dX11_join_1 : decode cX11_join 1 = .ok (.aload_n 0, 1) := by decide +kernel
theorem dX11_join_2 : decode cX11_join 2 = .ok (.getfield 10, 3) := by decide +kernel
theorem dX11_join_5 : decode cX11_join 5 = .ok (.iconst 0, 1) := by decide +kernel
set_option maxRecDepth 20000 in
theorem ggX11_join_X9_isInOrder : GoodIn wsX11_join wsX9_isInOrder := goodIn_r _ [7, 8, 9, 10, 11, 6, 12, 13, 14, 15, 16, 17, 18, 19, 69, 70, 71, 72, 73] (by decide +kernel) (by decide +kernel)
set_option maxRecDepth 20000 in
theorem gX11_join_X9_isInOrder : GoodIn wsX11_join (wsV RX11 146 RX9 yX9_isInOrder wsX9_isInOrder) := goodIn_app (goodIn_of _ (by decide +kernel)) ggX11_join_X9_isInOrder
theorem dX11_join_6 : decode cX11_join 6 = .ok (.invokevirtual 146, 3) := by decide +kernel
theorem dX11_join_9 : decode cX11_join 9 = .ok (.ifCond .eq 15, 3) := by decide +kernel
theorem dX11_join_12 : decode cX11_join 12 = .ok (.aload_n 2, 1) := by decide +kernel
theorem dX11_join_13 : decode cX11_join 13 = .ok (.aload_n 0, 1) := by decide +kernel
theorem dX11_join_14 : decode cX11_join 14 = .ok (.getfield 10, 3) := by decide +kernel
theorem dX11_join_17 : decode cX11_join 17 = .ok (.iconst 0, 1) := by decide +kernel
theorem dX11_join_18 : decode cX11_join 18 = .ok (.invokevirtual 146, 3) := by decide +kernel
theorem dX11_join_21 : decode cX11_join 21 = .ok (.ifCond .ne 5, 3) := by decide +kernel
theorem dX11_join_26 : decode cX11_join 26 = .ok (.iload 4, 2) := by decide +kernel
theorem dX11_join_28 : decode cX11_join 28 = .ok (.ifCond .ne 19, 3) := by decide +kernel
theorem dX11_join_47 : decode cX11_join 47 = .ok (.aload_n 0, 1) := by decide +kernel
theorem dX11_join_48 : decode cX11_join 48 = .ok (.getfield 26, 3) := by decide +kernel
set_option maxRecDepth 20000 in
theorem ggX11_join_X9_empty : GoodIn wsX11_join wsX9_empty := goodIn_r _ [23, 8, 69, 70] (by decide +kernel) (by decide +kernel)
set_option maxRecDepth 20000 in
theorem gX11_join_X9_empty : GoodIn wsX11_join (wsV RX11 150 RX9 yX9_empty wsX9_empty) := goodIn_app (goodIn_of _ (by decide +kernel)) ggX11_join_X9_empty
theorem dX11_join_51 : decode cX11_join 51 = .ok (.invokevirtual 150, 3) := by decide +kernel
theorem dX11_join_54 : decode cX11_join 54 = .ok (.iload 4, 2) := by decide +kernel
theorem dX11_join_56 : decode cX11_join 56 = .ok (.ifCond .ne 19, 3) := by decide +kernel
theorem dX11_join_75 : decode cX11_join 75 = .ok (.aload_n 0, 1) := by decide +kernel
theorem dX11_join_76 : decode cX11_join 76 = .ok (.getfield 26, 3) := by decide +kernel
theorem dX11_join_79 : decode cX11_join 79 = .ok (.aload_n 0, 1) := by decide +kernel
theorem dX11_join_80 : decode cX11_join 80 = .ok (.getfield 10, 3) := by decide +kernel
theorem dX11_join_83 : decode cX11_join 83 = .ok (.aload_n 1, 1) := by decide +kernel
theorem dX11_join_84 : decode cX11_join 84 = .ok (.aload_n 2, 1) := by decide +kernel
theorem dX11_join_85 : decode cX11_join 85 = .ok (.iload 4, 2) := by decide +kernel
theorem dX11_join_87 : decode cX11_join 87 = .ok (.iconst 1, 1) := by decide +kernel
theorem dX11_join_88 : decode cX11_join 88 = .ok (.if_icmp .ne 7, 3) := by decide +kernel
theorem dX11_join_95 : decode cX11_join 95 = .ok (.iconst 0, 1) := by decide +kernel
set_option maxRecDepth 20000 in
theorem ggX11_join_X9_pick : GoodIn wsX11_join wsX9_pick := goodIn_r _ [35, 8, 36, 37, 38, 6, 39, 9, 10, 11, 12, 13, 40, 41, 42, 17, 43, 19, 44, 45, 46, 47, 28, 29, 30, 31, 69, 70, 71, 72, 73] (by decide +kernel) (by decide +kernel)
set_option maxRecDepth 20000 in
theorem gX11_join_X9_pick : GoodIn wsX11_join (wsV RX11 365 RX9 yX9_pick wsX9_pick) := goodIn_app (goodIn_of _ (by decide +kernel)) ggX11_join_X9_pick
theorem dX11_join_96 : decode cX11_join 96 = .ok (.invokevirtual 365, 3) := by decide +kernel
theorem dX11_join_99 : decode cX11_join 99 = .ok (.aload_n 3, 1) := by decide +kernel
theorem dX11_join_100 : decode cX11_join 100 = .ok (.aload_n 0, 1) := by decide +kernel
theorem dX11_join_101 : decode cX11_join 101 = .ok (.getfield 26, 3) := by decide +kernel
set_option maxRecDepth 20000 in
theorem ggX11_join_X9_takeOver : GoodIn wsX11_join wsX9_takeOver := goodIn_r _ [51, 8, 52, 53, 54, 55, 13, 69, 70] (by decide +kernel) (by decide +kernel)
set_option maxRecDepth 20000 in
theorem gX11_join_X9_takeOver : GoodIn wsX11_join (wsV RX11 153 RX9 yX9_takeOver wsX9_takeOver) := goodIn_app (goodIn_of _ (by decide +kernel)) ggX11_join_X9_takeOver
theorem dX11_join_104 : decode cX11_join 104 = .ok (.invokevirtual 153, 3) := by decide +kernel
theorem dX11_join_107 : decode cX11_join 107 = .ok (.iconst 1, 1) := by decide +kernel
theorem dX11_join_108 : decode cX11_join 108 = .ok (.ireturn, 1) := by decide +kernel
theorem dX11_join_91 : decode cX11_join 91 = .ok (.iconst 1, 1) := by decide +kernel
theorem dX11_join_92 : decode cX11_join 92 = .ok (.goto 4, 3) := by decide +kernel
theorem dX11_join_31 : decode cX11_join 31 = .ok (.aload_n 1, 1) := by decide +kernel
theorem dX11_join_32 : decode cX11_join 32 = .ok (.getfield 105, 3) := by decide +kernel
theorem dX11_join_35 : decode cX11_join 35 = .ok (.aload_n 2, 1) := by decide +kernel
theorem dX11_join_36 : decode cX11_join 36 = .ok (.getfield 105, 3) := by decide +kernel
theorem dX11_join_39 : decode cX11_join 39 = .ok (.iadd, 1) := by decide +kernel
theorem dX11_join_40 : decode cX11_join 40 = .ok (.bipush 100, 2) := by decide +kernel
theorem dX11_join_42 : decode cX11_join 42 = .ok (.if_icmp .le 5, 3) := by decide +kernel
theorem dX11_join_59 : decode cX11_join 59 = .ok (.aload_n 0, 1) := by decide +kernel
theorem dX11_join_60 : decode cX11_join 60 = .ok (.getfield 26, 3) := by decide +kernel
theorem dX11_join_63 : decode cX11_join 63 = .ok (.aload_n 0, 1) := by decide +kernel
theorem dX11_join_64 : decode cX11_join 64 = .ok (.getfield 10, 3) := by decide +kernel
theorem dX11_join_67 : decode cX11_join 67 = .ok (.aload_n 1, 1) := by decide +kernel
theorem dX11_join_68 : decode cX11_join 68 = .ok (.aload_n 2, 1) := by decide +kernel
set_option maxRecDepth 20000 in
theorem ggX11_join_X9_unite : GoodIn wsX11_join wsX9_unite := goodIn_r _ [27, 8, 9, 10, 11, 6, 12, 13, 14, 15, 16, 17, 18, 19, 28, 29, 30, 31, 69, 70, 71, 72, 73] (by decide +kernel) (by decide +kernel)
set_option maxRecDepth 20000 in
theorem gX11_join_X9_unite : GoodIn wsX11_join (wsV RX11 361 RX9 yX9_unite wsX9_unite) := goodIn_app (goodIn_of _ (by decide +kernel)) ggX11_join_X9_unite
theorem dX11_join_69 : decode cX11_join 69 = .ok (.invokevirtual 361, 3) := by decide +kernel
theorem dX11_join_72 : decode cX11_join 72 = .ok (.goto 27, 3) := by decide +kernel
theorem dX11_combine_0 : decode cX11_combine 0 = .ok (.aload_n 0, 1) := by decide +kernel
theorem dX11_combine_1 : decode cX11_combine 1 = .ok (.iload_n 1, 1) := by decide +kernel
set_option maxRecDepth 20000 in
theorem ggX11_combine_X11_tapeOf : GoodIn wsX11_combine wsX11_tapeOf := goodIn_ca (goodIn_r _ [7, 8, 9, 10, 78, 79, 80, 81, 82, 83, 84, 85, 86, 87, 88, 89, 90] (by decide +kernel) (by decide +kernel)) (goodIn_sub (fun _ h => List.mem_cons_of_mem _ (List.mem_append_left _ (List.mem_append_right _ h))) (by decide +kernel))
set_option maxRecDepth 20000 in
theorem gX11_combine_X11_tapeOf : GoodIn wsX11_combine (wsV RX11 86 RX11 yX11_tapeOf wsX11_tapeOf) := goodIn_app (goodIn_of _ (by decide +kernel)) ggX11_combine_X11_tapeOf
theorem dX11_combine_2 : decode cX11_combine 2 = .ok (.invokevirtual 86, 3) := by decide +kernel
theorem dX11_combine_5 : decode cX11_combine 5 = .ok (.astore 5, 2) := by decide +kernel
theorem dX11_combine_7 : decode cX11_combine 7 = .ok (.aload_n 0, 1) := by decide +kernel
theorem dX11_combine_8 : decode cX11_combine 8 = .ok (.iload_n 2, 1) := by decide +kernel
theorem dX11_combine_9 : decode cX11_combine 9 = .ok (.invokevirtual 86, 3) := by decide +kernel
theorem dX11_combine_12 : decode cX11_combine 12 = .ok (.astore 6, 2) := by decide +kernel
theorem dX11_combine_14 : decode cX11_combine 14 = .ok (.aload_n 0, 1) := by decide +kernel
theorem dX11_combine_15 : decode cX11_combine 15 = .ok (.iload_n 3, 1) := by decide +kernel
theorem dX11_combine_16 : decode cX11_combine 16 = .ok (.invokevirtual 86, 3) := by decide +kernel
theorem dX11_combine_19 : decode cX11_combine 19 = .ok (.astore 7, 2) := by decide +kernel
theorem dX11_combine_21 : decode cX11_combine 21 = .ok (.aload_n 0, 1) := by decide +kernel
theorem dX11_combine_22 : decode cX11_combine 22 = .ok (.iload 4, 2) := by decide +kernel
theorem dX11_combine_24 : decode cX11_combine 24 = .ok (.iconst 0, 1) := by decide +kernel
theorem dX11_combine_25 : decode cX11_combine 25 = .ok (.iconst 2, 1) := by decide +kernel
set_option maxRecDepth 20000 in
theorem ggX11_combine_X11_demandRange : GoodIn wsX11_combine wsX11_demandRange := goodIn_ca (goodIn_r _ [14, 15, 16] (by decide +kernel) (by decide +kernel)) (goodIn_sub (fun _ h => List.mem_cons_of_mem _ (List.mem_append_right _ h)) (by decide +kernel))
set_option maxRecDepth 20000 in
theorem gX11_combine_X11_demandRange : GoodIn wsX11_combine (wsV RX11 90 RX11 yX11_demandRange wsX11_demandRange) := goodIn_app (goodIn_of _ (by decide +kernel)) ggX11_combine_X11_demandRange
theorem dX11_combine_26 : decode cX11_combine 26 = .ok (.invokevirtual 90, 3) := by decide +kernel
theorem dX11_combine_29 : decode cX11_combine 29 = .ok (.aload_n 0, 1) := by decide +kernel
theorem dX11_combine_30 : decode cX11_combine 30 = .ok (.aload 5, 2) := by decide +kernel
theorem dX11_combine_32 : decode cX11_combine 32 = .ok (.aload 6, 2) := by decide +kernel
theorem dX11_combine_34 : decode cX11_combine 34 = .ok (.aload 7, 2) := by decide +kernel
theorem dX11_combine_36 : decode cX11_combine 36 = .ok (.iload 4, 2) := by decide +kernel
set_option maxRecDepth 20000 in
theorem ggX11_combine_X11_join : GoodIn wsX11_combine wsX11_join := goodIn_r _ [20, 21, 22, 23, 24, 25, 26, 27, 28, 29, 30, 31, 32, 33, 34, 35, 36, 37, 38, 39, 40, 41, 42, 43, 44, 45, 46, 47, 48, 49, 50, 51, 52, 53, 54, 55, 56, 57, 58, 59, 60, 61, 62, 63, 64, 65, 66, 67, 68, 69, 70, 71, 72, 73, 74, 75, 78, 79, 80, 81, 82, 83, 84, 85, 86, 87, 88, 89, 90, 76, 77, 91, 92, 93] (by decide +kernel) (by decide +kernel)
set_option maxRecDepth 20000 in
theorem gX11_combine_X11_join : GoodIn wsX11_combine (wsV RX11 266 RX11 yX11_join wsX11_join) := goodIn_app (goodIn_of _ (by decide +kernel)) ggX11_combine_X11_join
theorem dX11_combine_38 : decode cX11_combine 38 = .ok (.invokevirtual 266, 3) := by decide +kernel
theorem dX11_combine_41 : decode cX11_combine 41 = .ok (.ifCond .ne 14, 3) := by decide +kernel
theorem dX11_combine_55 : decode cX11_combine 55 = .ok (.aload 7, 2) := by decide +kernel
theorem dX11_combine_57 : decode cX11_combine 57 = .ok (.getfield 105, 3) := by decide +kernel
theorem dX11_combine_60 : decode cX11_combine 60 = .ok (.ireturn, 1) := by decide +kernel
section
variable {p : Program} {l : Launch} {e : Env} {R : Room} {s : State} {m : MethodId} {args : Array Value} {below : List Frame} {meth : Method} {c : Code} {T : State} {H : Heap} {locs : List Loc} {cells slots : Nat} {Q : State → Prop} {cc : ByteArray} {pc : Nat} {ls : Array Slot} {rest : List Value}
theorem lv_ldcfwX (X : Stand p l e R s m args below meth c T locs cells slots) (hexec : p.tables.exec = Jvm.exec) {own : String} {index : Nat} {v : UInt32} (hown : s.vm.findClass own = some m.cls)
    (hconst : (Cond.constantFloat own index v).before args s = true) {g : JFrame} (hg : g.method = m) (hdg : decode c.code g.pc = .ok (.ldc_w index, 3)) :
    ∀ target, Steps p.tables e below (T.setTop { g with pc := g.pc + 3, stack := .float v :: g.stack }) target → Steps p.tables e below (T.setTop g) target := by
  obtain ⟨k, cf, hk, hcf, hcp⟩ := Cond.constantFloat_spec hown hconst
  obtain ⟨k', hk', he⟩ := X.warmed.alike.2.2 _ _ hk
  intro target hrest
  subst hg
  jvm_step X.here [hexec, hdg, ldc_w.wp_float (s := T) (f := g) X.here.top hk' (by rw [he]; exact hcf) hcp]
  exact hrest
theorem lv_ldcfw (hexec : p.tables.exec = Jvm.exec) (hb : c.code = cc) {own : String} {index : Nat} {v : UInt32} (hown : s.vm.findClass own = some m.cls) (hconst : (Jvm.Cond.constantFloat own index v).before args s = true) (hdg : decode cc pc = .ok (.ldc_w index, 3)) (k : W p l e R s m args below meth c H locs cells slots Q (F0 m (pc + 3) ls (.float v :: rest))) : W p l e R s m args below meth c H locs cells slots Q (F0 m pc ls rest) := by
  intro T hT X
  obtain ⟨t, a, b⟩ := k T hT X
  exact ⟨t, lv_ldcfwX X hexec hown hconst (g := F0 m pc ls rest) rfl (by rw [hb]; exact hdg) t a, b⟩
end
set_option maxHeartbeats 4000000 in
set_option maxRecDepth 100000 in
theorem c_X11_carryOutText (l : Launch) (dC : Nat → ClassId) (dI : Nat → Nat → Nat) (g : Nat → ClassId) (a : Nat → Nat) (sz : Nat) : Met l yX11_carryOutText wsX11_carryOutText ({ frames := 3, cells := 0, slots := 0, locals := 62 }) (va_Pc [.ref (a 0)] (PG (dC, dI) g (offW a g) sz)) (va_Qi (fun (r : Int32) (_ : Unit) => r = 0) (fun (_ : Unit) t => va_P (dC, dI) vwCl (offW a g) t.heap) (va_A (offW a g) sz)) 0 0 (va_A (offW a g) sz) := by
  refine Met.ofW (cc := cX11_carryOutText) (maxL := 3) (ret := (some .int)) (by decide) rfl ?_
  intro p e s m args below meth c s₁ B hml hv
  obtain ⟨rfl, hsz, hP, hK, hD0, hG⟩ := hv
  have hx := B.exec
  have hb := B.bytes
  have hr := B.returns
  have hts := atoms_spec (ws := wsX11_carryOutText) B.pre
  have hown : s.vm.findClass RX11 = some m.cls := findClass_of_methodNamed B.named
  have hlocks := B.notSynchronized
  subst hsz
  have hD := hD0.self (sz := s.heap.size)
  generalize hAe : va_A (offW a g) s.heap.size = A at hD hG ⊢
  have hA : ∀ q : Nat, s.heap.size ≤ q → A q := fun q h => by rw [← hAe]; exact Or.inr h
  have hS : va_S A s.heap s.heap [] := va_S.rf
  have hl := lv_entry ([.ref (a 0)]) (n := 3) (Nat.le_of_ble_eq_true rfl)
  rw [lg_entry_eq]
  generalize (lg_sl ([.ref (a 0)]) ++ List.replicate (3 - (lg_sl ([.ref (a 0)])).length) Slot.unset).toArray = ls at hl ⊢
  have hl : lv_has ls 3 [(0, .ref (a 0))] := hl
  have hf71 := hts (Cond.fieldLink RX11 71 "RunmergeOffice" "reader" "LRunmergeOffice$Reader;") (by decide +kernel)
  have hiX11 : ∀ w ∈ u_ws RX11 TX11 13, w ∈ wsX11_carryOutText := by decide +kernel
  have hf33 := hts (Cond.fieldLink RX11 33 "RunmergeOffice" "settings" "LRunmergeOffice$Settings;") (by decide +kernel)
  have hiX5 : ∀ w ∈ u_ws RX5 TX5 13, w ∈ wsX11_carryOutText := by decide +kernel
  have hf22 := hts (Cond.fieldLink RX11 22 "RunmergeOffice" "copies" "[LRunmergeOffice$Tape;") (by decide +kernel)
  have hf18 := hts (Cond.fieldLink RX11 18 "RunmergeOffice" "tapes" "[LRunmergeOffice$Tape;") (by decide +kernel)
  refine lv_aload_n hx hb dX11_carryOutText_0 rfl (lv_at hl 0 rfl) ?_
  refine va_get (D := (dC, dI)) (ci := 13) (v := .ref (a 64)) (C := RX11) (T := TX11) (N := 13) hx hb hts hiX11 hown hK hP 0 (o_0 a g) rfl 10 (by decide) hf71 (fun _ h9 => h9) rfl dX11_carryOutText_1 ?_
  refine va_callv (va_runV (As := []) (rest := []) ⟨hx, hb, hml, hown, hts⟩ (c_X5_restart l dC dI g (offW a g) (a 64) (a 65) (a 67) (a 68) 64 (o_64 a g)  s.heap.size) (cwV 0 hts gX11_carryOutText_X5_restart rfl rfl rfl (by decide +kernel) ⟨Nat.le_of_ble_eq_true rfl, Nat.le_of_ble_eq_true rfl⟩) ⟨PG_blind, va_recv hK hP (ci := 7) (q0 := 64) rfl (o_64 a g), PG_call hK hG hS hP hD (A_all hD hA hS.1)⟩ rfl rfl hl.1 rfl (lv_room (Nat.le_of_ble_eq_true rfl)) dX11_carryOutText_4 ⟨Nat.le_of_ble_eq_true rfl, Nat.le_of_ble_eq_true rfl⟩) hS (fun q _ h => (A_all hD hA hS.1) q h) (A_all hD hA hS.1) (fun u_1 t_1 H_1 L_1 ht_1 hvm_1 hw_1 hB_1 hz_1 hk_1 hS => ?_)
  replace hB_1 := (show va_P (dC, dI) vwCl (offW a g) t_1.heap from hB_1)
  rw [ht_1] at hB_1
  have hP := hB_1
  refine lv_iconst (v := 1) hx hb dX11_carryOutText_7 (by decide) ?_
  refine lv_istore_n (lv' := [(1, .int 1), (0, .ref (a 0))]) hx hb dX11_carryOutText_8 rfl hl (by decide) rfl (fun ls hl => ?_)
  refine lv_iconst (v := 0) hx hb dX11_carryOutText_9 (by decide) ?_
  refine lv_istore_n (lv' := [(2, .int 0), (1, .int 1), (0, .ref (a 0))]) hx hb dX11_carryOutText_10 rfl hl (by decide) rfl (fun ls hl => ?_)
  refine lv_iload_n hx hb dX11_carryOutText_11 rfl (lv_at hl 0 rfl) ?_
  refine lv_sipush (v := 160) hx hb dX11_carryOutText_12 (by decide) ?_
  refine lv_icmp_gt (tgt := 40) hx hb dX11_carryOutText_15 (by decide) (fun c_2 => absurd c_2 (by decide)) (fun c_2 => ?_)
  refine lv_iload_n hx hb dX11_carryOutText_18 rfl (lv_at hl 1 rfl) ?_
  refine lv_if_eq (tgt := 40) hx hb dX11_carryOutText_19 (by decide) (fun c_3 => absurd c_3 (by decide)) (fun c_3 => ?_)
  refine lv_aload_n hx hb dX11_carryOutText_22 rfl (lv_at hl 2 rfl) ?_
  refine va_get (D := (dC, dI)) (ci := 13) (v := .ref (a 64)) (C := RX11) (T := TX11) (N := 13) hx hb hts hiX11 hown hK hP 0 (o_0 a g) rfl 10 (by decide) hf71 (fun _ h9 => h9) rfl dX11_carryOutText_23 ?_
  refine lv_aload_n hx hb dX11_carryOutText_26 rfl (lv_at hl 2 rfl) ?_
  refine va_get (D := (dC, dI)) (ci := 13) (v := .ref (a 8)) (C := RX11) (T := TX11) (N := 13) hx hb hts hiX11 hown hK hP 0 (o_0 a g) rfl 4 (by decide) hf33 (fun _ h9 => h9) rfl dX11_carryOutText_27 ?_
  refine va_calli (va_runV (As := [.ref (a 8)]) (rest := []) ⟨hx, hb, hml, hown, hts⟩ (c_X5_readStatement l dC dI g (offW a g) (a 64) (a 65) (a 67) (a 68) (a 66) (a 8) 64 (o_64 a g) 65 (o_65 a g)  H_1.size) (cwV 1 hts gX11_carryOutText_X5_readStatement rfl rfl rfl (by decide +kernel) ⟨Nat.le_of_ble_eq_true rfl, Nat.le_of_ble_eq_true rfl⟩) ⟨PG_blind, va_recv hK hP (ci := 7) (q0 := 64) rfl (o_64 a g), PG_call hK hG hS hP hD (A_all hD hA hS.1)⟩ rfl rfl hl.1 rfl (lv_room (Nat.le_of_ble_eq_true rfl)) dX11_carryOutText_30 ⟨Nat.le_of_ble_eq_true rfl, Nat.le_of_ble_eq_true rfl⟩) hS (fun q _ h => (A_all hD hA hS.1) q h) (A_all hD hA hS.1) (fun r_4 u_4 t_4 H_4 L_4 ht_4 hvm_4 hw_4 hB_4 hz_4 hk_4 hS => ?_)
  replace hB_4 := (show va_P (dC, dI) vwCl (offW a g) t_4.heap from hB_4)
  rw [ht_4] at hB_4
  have hP := hB_4
  obtain rfl : r_4 = 0 := hw_4
  refine lv_istore_n (lv' := [(1, .int 0), (2, .int 0), (0, .ref (a 0))]) hx hb dX11_carryOutText_33 rfl hl (by decide) rfl (fun ls hl => ?_)
  refine lv_iinc (v := 1) (lv' := [(2, .int 1), (1, .int 0), (0, .ref (a 0))]) hx hb dX11_carryOutText_34 hl (k := 1) rfl (by decide) (by decide) rfl (fun ls hl => ?_)
  refine lv_goto (tgt := 11) hx hb dX11_carryOutText_37 (by decide) ?_
  refine lv_iload_n hx hb dX11_carryOutText_11 rfl (lv_at hl 0 rfl) ?_
  refine lv_sipush (v := 160) hx hb dX11_carryOutText_12 (by decide) ?_
  refine lv_icmp_gt (tgt := 40) hx hb dX11_carryOutText_15 (by decide) (fun c_5 => absurd c_5 (by decide)) (fun c_5 => ?_)
  refine lv_iload_n hx hb dX11_carryOutText_18 rfl (lv_at hl 1 rfl) ?_
  refine lv_if_eq (tgt := 40) hx hb dX11_carryOutText_19 (by decide) (fun c_6 => ?_) (fun c_6 => absurd (by decide) c_6)
  refine lv_aload_n hx hb dX11_carryOutText_40 rfl (lv_at hl 2 rfl) ?_
  refine va_get (D := (dC, dI)) (ci := 13) (v := .ref (a 64)) (C := RX11) (T := TX11) (N := 13) hx hb hts hiX11 hown hK hP 0 (o_0 a g) rfl 10 (by decide) hf71 (fun _ h9 => h9) rfl dX11_carryOutText_41 ?_
  refine va_getN (D := (dC, dI)) (ci := 7) (v := .int 0) (C := RX5) (T := TX5) (N := 13) hx hb hts hiX5 hown hK hP 64 (o_64 a g) rfl 11 (by decide) (nf_58 hG) (fun _ h9 => h9) rfl dX11_carryOutText_44 ?_
  refine lv_if_eq (tgt := 52) hx hb dX11_carryOutText_47 (by decide) (fun c_7 => ?_) (fun c_7 => absurd (by decide) c_7)
  refine lv_iconst (v := 0) hx hb dX11_carryOutText_52 (by decide) ?_
  refine lv_istore_n (lv' := [(2, .int 0), (1, .int 0), (0, .ref (a 0))]) hx hb dX11_carryOutText_53 rfl hl (by decide) rfl (fun ls hl => ?_)
  refine lv_iload_n hx hb dX11_carryOutText_54 rfl (lv_at hl 0 rfl) ?_
  refine lv_bipush (v := 8) hx hb dX11_carryOutText_55 (by decide) ?_
  refine lv_icmp_ge (tgt := 81) hx hb dX11_carryOutText_57 (by decide) (fun c_8 => absurd c_8 (by decide)) (fun c_8 => ?_)
  refine lv_aload_n hx hb dX11_carryOutText_60 rfl (lv_at hl 2 rfl) ?_
  refine va_get (D := (dC, dI)) (ci := 13) (v := .ref (a 5)) (C := RX11) (T := TX11) (N := 13) hx hb hts hiX11 hown hK hP 0 (o_0 a g) rfl 2 (by decide) hf22 (fun _ h9 => h9) rfl dX11_carryOutText_61 ?_
  refine lv_iload_n hx hb dX11_carryOutText_64 rfl (lv_at hl 0 rfl) ?_
  refine va_aldq hx hb hK hP 5 1 (o_5 a g) rfl (by unfold vp_in; decide) dX11_carryOutText_65 ?_
  refine W.eq (g2 := F0 m 66 ls [.ref (a 124)]) rfl ?_
  refine lv_aload_n hx hb dX11_carryOutText_66 rfl (lv_at hl 2 rfl) ?_
  refine va_get (D := (dC, dI)) (ci := 13) (v := .ref (a 4)) (C := RX11) (T := TX11) (N := 13) hx hb hts hiX11 hown hK hP 0 (o_0 a g) rfl 1 (by decide) hf18 (fun _ h9 => h9) rfl dX11_carryOutText_67 ?_
  refine lv_iload_n hx hb dX11_carryOutText_70 rfl (lv_at hl 0 rfl) ?_
  refine va_aldq hx hb hK hP 4 1 (o_4 a g) rfl (by unfold vp_in; decide) dX11_carryOutText_71 ?_
  refine W.eq (g2 := F0 m 72 ls [.ref (a 108), .ref (a 124)]) rfl ?_
  refine va_callv (va_runV (As := [.ref (a 108)]) (rest := []) ⟨hx, hb, hml, hown, hts⟩ (c_X9_takeOver l dC dI g (offW a g) (a 124) (a 132) (a 108) (a 116) 124 (o_124 a g) 108 (o_108 a g)  H_4.size) (cwV 1 hts gX11_carryOutText_X9_takeOver rfl rfl rfl (by decide +kernel) ⟨Nat.le_of_ble_eq_true rfl, Nat.le_of_ble_eq_true rfl⟩) ⟨PG_blind, va_recv hK hP (ci := 11) (q0 := 124) rfl (o_124 a g), PG_call hK hG hS hP hD (A_all hD hA hS.1)⟩ rfl rfl hl.1 rfl (lv_room (Nat.le_of_ble_eq_true rfl)) dX11_carryOutText_72 ⟨Nat.le_of_ble_eq_true rfl, Nat.le_of_ble_eq_true rfl⟩) hS (fun q _ h => (A_all hD hA hS.1) q h) (A_all hD hA hS.1) (fun u_9 t_9 H_9 L_9 ht_9 hvm_9 hw_9 hB_9 hz_9 hk_9 hS => ?_)
  replace hB_9 := (show va_P (dC, dI) vwCl (offW a g) t_9.heap from hB_9)
  rw [ht_9] at hB_9
  have hP := hB_9
  refine lv_iinc (v := 1) (lv' := [(2, .int 1), (1, .int 0), (0, .ref (a 0))]) hx hb dX11_carryOutText_75 hl (k := 0) rfl (by decide) (by decide) rfl (fun ls hl => ?_)
  refine lv_goto (tgt := 54) hx hb dX11_carryOutText_78 (by decide) ?_
  refine lv_iload_n hx hb dX11_carryOutText_54 rfl (lv_at hl 0 rfl) ?_
  refine lv_bipush (v := 8) hx hb dX11_carryOutText_55 (by decide) ?_
  refine lv_icmp_ge (tgt := 81) hx hb dX11_carryOutText_57 (by decide) (fun c_10 => absurd c_10 (by decide)) (fun c_10 => ?_)
  refine lv_aload_n hx hb dX11_carryOutText_60 rfl (lv_at hl 2 rfl) ?_
  refine va_get (D := (dC, dI)) (ci := 13) (v := .ref (a 5)) (C := RX11) (T := TX11) (N := 13) hx hb hts hiX11 hown hK hP 0 (o_0 a g) rfl 2 (by decide) hf22 (fun _ h9 => h9) rfl dX11_carryOutText_61 ?_
  refine lv_iload_n hx hb dX11_carryOutText_64 rfl (lv_at hl 0 rfl) ?_
  refine va_aldq hx hb hK hP 5 1 (o_5 a g) rfl (by unfold vp_in; decide) dX11_carryOutText_65 ?_
  refine W.eq (g2 := F0 m 66 ls [.ref (a 125)]) rfl ?_
  refine lv_aload_n hx hb dX11_carryOutText_66 rfl (lv_at hl 2 rfl) ?_
  refine va_get (D := (dC, dI)) (ci := 13) (v := .ref (a 4)) (C := RX11) (T := TX11) (N := 13) hx hb hts hiX11 hown hK hP 0 (o_0 a g) rfl 1 (by decide) hf18 (fun _ h9 => h9) rfl dX11_carryOutText_67 ?_
  refine lv_iload_n hx hb dX11_carryOutText_70 rfl (lv_at hl 0 rfl) ?_
  refine va_aldq hx hb hK hP 4 1 (o_4 a g) rfl (by unfold vp_in; decide) dX11_carryOutText_71 ?_
  refine W.eq (g2 := F0 m 72 ls [.ref (a 109), .ref (a 125)]) rfl ?_
  refine va_callv (va_runV (As := [.ref (a 109)]) (rest := []) ⟨hx, hb, hml, hown, hts⟩ (c_X9_takeOver l dC dI g (offW a g) (a 125) (a 133) (a 109) (a 117) 125 (o_125 a g) 109 (o_109 a g)  H_9.size) (cwV 1 hts gX11_carryOutText_X9_takeOver rfl rfl rfl (by decide +kernel) ⟨Nat.le_of_ble_eq_true rfl, Nat.le_of_ble_eq_true rfl⟩) ⟨PG_blind, va_recv hK hP (ci := 11) (q0 := 125) rfl (o_125 a g), PG_call hK hG hS hP hD (A_all hD hA hS.1)⟩ rfl rfl hl.1 rfl (lv_room (Nat.le_of_ble_eq_true rfl)) dX11_carryOutText_72 ⟨Nat.le_of_ble_eq_true rfl, Nat.le_of_ble_eq_true rfl⟩) hS (fun q _ h => (A_all hD hA hS.1) q h) (A_all hD hA hS.1) (fun u_11 t_11 H_11 L_11 ht_11 hvm_11 hw_11 hB_11 hz_11 hk_11 hS => ?_)
  replace hB_11 := (show va_P (dC, dI) vwCl (offW a g) t_11.heap from hB_11)
  rw [ht_11] at hB_11
  have hP := hB_11
  refine lv_iinc (v := 2) (lv' := [(2, .int 2), (1, .int 0), (0, .ref (a 0))]) hx hb dX11_carryOutText_75 hl (k := 0) rfl (by decide) (by decide) rfl (fun ls hl => ?_)
  refine lv_goto (tgt := 54) hx hb dX11_carryOutText_78 (by decide) ?_
  refine lv_iload_n hx hb dX11_carryOutText_54 rfl (lv_at hl 0 rfl) ?_
  refine lv_bipush (v := 8) hx hb dX11_carryOutText_55 (by decide) ?_
  refine lv_icmp_ge (tgt := 81) hx hb dX11_carryOutText_57 (by decide) (fun c_12 => absurd c_12 (by decide)) (fun c_12 => ?_)
  refine lv_aload_n hx hb dX11_carryOutText_60 rfl (lv_at hl 2 rfl) ?_
  refine va_get (D := (dC, dI)) (ci := 13) (v := .ref (a 5)) (C := RX11) (T := TX11) (N := 13) hx hb hts hiX11 hown hK hP 0 (o_0 a g) rfl 2 (by decide) hf22 (fun _ h9 => h9) rfl dX11_carryOutText_61 ?_
  refine lv_iload_n hx hb dX11_carryOutText_64 rfl (lv_at hl 0 rfl) ?_
  refine va_aldq hx hb hK hP 5 1 (o_5 a g) rfl (by unfold vp_in; decide) dX11_carryOutText_65 ?_
  refine W.eq (g2 := F0 m 66 ls [.ref (a 126)]) rfl ?_
  refine lv_aload_n hx hb dX11_carryOutText_66 rfl (lv_at hl 2 rfl) ?_
  refine va_get (D := (dC, dI)) (ci := 13) (v := .ref (a 4)) (C := RX11) (T := TX11) (N := 13) hx hb hts hiX11 hown hK hP 0 (o_0 a g) rfl 1 (by decide) hf18 (fun _ h9 => h9) rfl dX11_carryOutText_67 ?_
  refine lv_iload_n hx hb dX11_carryOutText_70 rfl (lv_at hl 0 rfl) ?_
  refine va_aldq hx hb hK hP 4 1 (o_4 a g) rfl (by unfold vp_in; decide) dX11_carryOutText_71 ?_
  refine W.eq (g2 := F0 m 72 ls [.ref (a 110), .ref (a 126)]) rfl ?_
  refine va_callv (va_runV (As := [.ref (a 110)]) (rest := []) ⟨hx, hb, hml, hown, hts⟩ (c_X9_takeOver l dC dI g (offW a g) (a 126) (a 134) (a 110) (a 118) 126 (o_126 a g) 110 (o_110 a g)  H_11.size) (cwV 1 hts gX11_carryOutText_X9_takeOver rfl rfl rfl (by decide +kernel) ⟨Nat.le_of_ble_eq_true rfl, Nat.le_of_ble_eq_true rfl⟩) ⟨PG_blind, va_recv hK hP (ci := 11) (q0 := 126) rfl (o_126 a g), PG_call hK hG hS hP hD (A_all hD hA hS.1)⟩ rfl rfl hl.1 rfl (lv_room (Nat.le_of_ble_eq_true rfl)) dX11_carryOutText_72 ⟨Nat.le_of_ble_eq_true rfl, Nat.le_of_ble_eq_true rfl⟩) hS (fun q _ h => (A_all hD hA hS.1) q h) (A_all hD hA hS.1) (fun u_13 t_13 H_13 L_13 ht_13 hvm_13 hw_13 hB_13 hz_13 hk_13 hS => ?_)
  replace hB_13 := (show va_P (dC, dI) vwCl (offW a g) t_13.heap from hB_13)
  rw [ht_13] at hB_13
  have hP := hB_13
  refine lv_iinc (v := 3) (lv' := [(2, .int 3), (1, .int 0), (0, .ref (a 0))]) hx hb dX11_carryOutText_75 hl (k := 0) rfl (by decide) (by decide) rfl (fun ls hl => ?_)
  refine lv_goto (tgt := 54) hx hb dX11_carryOutText_78 (by decide) ?_
  refine lv_iload_n hx hb dX11_carryOutText_54 rfl (lv_at hl 0 rfl) ?_
  refine lv_bipush (v := 8) hx hb dX11_carryOutText_55 (by decide) ?_
  refine lv_icmp_ge (tgt := 81) hx hb dX11_carryOutText_57 (by decide) (fun c_14 => absurd c_14 (by decide)) (fun c_14 => ?_)
  refine lv_aload_n hx hb dX11_carryOutText_60 rfl (lv_at hl 2 rfl) ?_
  refine va_get (D := (dC, dI)) (ci := 13) (v := .ref (a 5)) (C := RX11) (T := TX11) (N := 13) hx hb hts hiX11 hown hK hP 0 (o_0 a g) rfl 2 (by decide) hf22 (fun _ h9 => h9) rfl dX11_carryOutText_61 ?_
  refine lv_iload_n hx hb dX11_carryOutText_64 rfl (lv_at hl 0 rfl) ?_
  refine va_aldq hx hb hK hP 5 1 (o_5 a g) rfl (by unfold vp_in; decide) dX11_carryOutText_65 ?_
  refine W.eq (g2 := F0 m 66 ls [.ref (a 127)]) rfl ?_
  refine lv_aload_n hx hb dX11_carryOutText_66 rfl (lv_at hl 2 rfl) ?_
  refine va_get (D := (dC, dI)) (ci := 13) (v := .ref (a 4)) (C := RX11) (T := TX11) (N := 13) hx hb hts hiX11 hown hK hP 0 (o_0 a g) rfl 1 (by decide) hf18 (fun _ h9 => h9) rfl dX11_carryOutText_67 ?_
  refine lv_iload_n hx hb dX11_carryOutText_70 rfl (lv_at hl 0 rfl) ?_
  refine va_aldq hx hb hK hP 4 1 (o_4 a g) rfl (by unfold vp_in; decide) dX11_carryOutText_71 ?_
  refine W.eq (g2 := F0 m 72 ls [.ref (a 111), .ref (a 127)]) rfl ?_
  refine va_callv (va_runV (As := [.ref (a 111)]) (rest := []) ⟨hx, hb, hml, hown, hts⟩ (c_X9_takeOver l dC dI g (offW a g) (a 127) (a 135) (a 111) (a 119) 127 (o_127 a g) 111 (o_111 a g)  H_13.size) (cwV 1 hts gX11_carryOutText_X9_takeOver rfl rfl rfl (by decide +kernel) ⟨Nat.le_of_ble_eq_true rfl, Nat.le_of_ble_eq_true rfl⟩) ⟨PG_blind, va_recv hK hP (ci := 11) (q0 := 127) rfl (o_127 a g), PG_call hK hG hS hP hD (A_all hD hA hS.1)⟩ rfl rfl hl.1 rfl (lv_room (Nat.le_of_ble_eq_true rfl)) dX11_carryOutText_72 ⟨Nat.le_of_ble_eq_true rfl, Nat.le_of_ble_eq_true rfl⟩) hS (fun q _ h => (A_all hD hA hS.1) q h) (A_all hD hA hS.1) (fun u_15 t_15 H_15 L_15 ht_15 hvm_15 hw_15 hB_15 hz_15 hk_15 hS => ?_)
  replace hB_15 := (show va_P (dC, dI) vwCl (offW a g) t_15.heap from hB_15)
  rw [ht_15] at hB_15
  have hP := hB_15
  refine lv_iinc (v := 4) (lv' := [(2, .int 4), (1, .int 0), (0, .ref (a 0))]) hx hb dX11_carryOutText_75 hl (k := 0) rfl (by decide) (by decide) rfl (fun ls hl => ?_)
  refine lv_goto (tgt := 54) hx hb dX11_carryOutText_78 (by decide) ?_
  refine lv_iload_n hx hb dX11_carryOutText_54 rfl (lv_at hl 0 rfl) ?_
  refine lv_bipush (v := 8) hx hb dX11_carryOutText_55 (by decide) ?_
  refine lv_icmp_ge (tgt := 81) hx hb dX11_carryOutText_57 (by decide) (fun c_16 => absurd c_16 (by decide)) (fun c_16 => ?_)
  refine lv_aload_n hx hb dX11_carryOutText_60 rfl (lv_at hl 2 rfl) ?_
  refine va_get (D := (dC, dI)) (ci := 13) (v := .ref (a 5)) (C := RX11) (T := TX11) (N := 13) hx hb hts hiX11 hown hK hP 0 (o_0 a g) rfl 2 (by decide) hf22 (fun _ h9 => h9) rfl dX11_carryOutText_61 ?_
  refine lv_iload_n hx hb dX11_carryOutText_64 rfl (lv_at hl 0 rfl) ?_
  refine va_aldq hx hb hK hP 5 1 (o_5 a g) rfl (by unfold vp_in; decide) dX11_carryOutText_65 ?_
  refine W.eq (g2 := F0 m 66 ls [.ref (a 128)]) rfl ?_
  refine lv_aload_n hx hb dX11_carryOutText_66 rfl (lv_at hl 2 rfl) ?_
  refine va_get (D := (dC, dI)) (ci := 13) (v := .ref (a 4)) (C := RX11) (T := TX11) (N := 13) hx hb hts hiX11 hown hK hP 0 (o_0 a g) rfl 1 (by decide) hf18 (fun _ h9 => h9) rfl dX11_carryOutText_67 ?_
  refine lv_iload_n hx hb dX11_carryOutText_70 rfl (lv_at hl 0 rfl) ?_
  refine va_aldq hx hb hK hP 4 1 (o_4 a g) rfl (by unfold vp_in; decide) dX11_carryOutText_71 ?_
  refine W.eq (g2 := F0 m 72 ls [.ref (a 112), .ref (a 128)]) rfl ?_
  refine va_callv (va_runV (As := [.ref (a 112)]) (rest := []) ⟨hx, hb, hml, hown, hts⟩ (c_X9_takeOver l dC dI g (offW a g) (a 128) (a 136) (a 112) (a 120) 128 (o_128 a g) 112 (o_112 a g)  H_15.size) (cwV 1 hts gX11_carryOutText_X9_takeOver rfl rfl rfl (by decide +kernel) ⟨Nat.le_of_ble_eq_true rfl, Nat.le_of_ble_eq_true rfl⟩) ⟨PG_blind, va_recv hK hP (ci := 11) (q0 := 128) rfl (o_128 a g), PG_call hK hG hS hP hD (A_all hD hA hS.1)⟩ rfl rfl hl.1 rfl (lv_room (Nat.le_of_ble_eq_true rfl)) dX11_carryOutText_72 ⟨Nat.le_of_ble_eq_true rfl, Nat.le_of_ble_eq_true rfl⟩) hS (fun q _ h => (A_all hD hA hS.1) q h) (A_all hD hA hS.1) (fun u_17 t_17 H_17 L_17 ht_17 hvm_17 hw_17 hB_17 hz_17 hk_17 hS => ?_)
  replace hB_17 := (show va_P (dC, dI) vwCl (offW a g) t_17.heap from hB_17)
  rw [ht_17] at hB_17
  have hP := hB_17
  refine lv_iinc (v := 5) (lv' := [(2, .int 5), (1, .int 0), (0, .ref (a 0))]) hx hb dX11_carryOutText_75 hl (k := 0) rfl (by decide) (by decide) rfl (fun ls hl => ?_)
  refine lv_goto (tgt := 54) hx hb dX11_carryOutText_78 (by decide) ?_
  refine lv_iload_n hx hb dX11_carryOutText_54 rfl (lv_at hl 0 rfl) ?_
  refine lv_bipush (v := 8) hx hb dX11_carryOutText_55 (by decide) ?_
  refine lv_icmp_ge (tgt := 81) hx hb dX11_carryOutText_57 (by decide) (fun c_18 => absurd c_18 (by decide)) (fun c_18 => ?_)
  refine lv_aload_n hx hb dX11_carryOutText_60 rfl (lv_at hl 2 rfl) ?_
  refine va_get (D := (dC, dI)) (ci := 13) (v := .ref (a 5)) (C := RX11) (T := TX11) (N := 13) hx hb hts hiX11 hown hK hP 0 (o_0 a g) rfl 2 (by decide) hf22 (fun _ h9 => h9) rfl dX11_carryOutText_61 ?_
  refine lv_iload_n hx hb dX11_carryOutText_64 rfl (lv_at hl 0 rfl) ?_
  refine va_aldq hx hb hK hP 5 1 (o_5 a g) rfl (by unfold vp_in; decide) dX11_carryOutText_65 ?_
  refine W.eq (g2 := F0 m 66 ls [.ref (a 129)]) rfl ?_
  refine lv_aload_n hx hb dX11_carryOutText_66 rfl (lv_at hl 2 rfl) ?_
  refine va_get (D := (dC, dI)) (ci := 13) (v := .ref (a 4)) (C := RX11) (T := TX11) (N := 13) hx hb hts hiX11 hown hK hP 0 (o_0 a g) rfl 1 (by decide) hf18 (fun _ h9 => h9) rfl dX11_carryOutText_67 ?_
  refine lv_iload_n hx hb dX11_carryOutText_70 rfl (lv_at hl 0 rfl) ?_
  refine va_aldq hx hb hK hP 4 1 (o_4 a g) rfl (by unfold vp_in; decide) dX11_carryOutText_71 ?_
  refine W.eq (g2 := F0 m 72 ls [.ref (a 113), .ref (a 129)]) rfl ?_
  refine va_callv (va_runV (As := [.ref (a 113)]) (rest := []) ⟨hx, hb, hml, hown, hts⟩ (c_X9_takeOver l dC dI g (offW a g) (a 129) (a 137) (a 113) (a 121) 129 (o_129 a g) 113 (o_113 a g)  H_17.size) (cwV 1 hts gX11_carryOutText_X9_takeOver rfl rfl rfl (by decide +kernel) ⟨Nat.le_of_ble_eq_true rfl, Nat.le_of_ble_eq_true rfl⟩) ⟨PG_blind, va_recv hK hP (ci := 11) (q0 := 129) rfl (o_129 a g), PG_call hK hG hS hP hD (A_all hD hA hS.1)⟩ rfl rfl hl.1 rfl (lv_room (Nat.le_of_ble_eq_true rfl)) dX11_carryOutText_72 ⟨Nat.le_of_ble_eq_true rfl, Nat.le_of_ble_eq_true rfl⟩) hS (fun q _ h => (A_all hD hA hS.1) q h) (A_all hD hA hS.1) (fun u_19 t_19 H_19 L_19 ht_19 hvm_19 hw_19 hB_19 hz_19 hk_19 hS => ?_)
  replace hB_19 := (show va_P (dC, dI) vwCl (offW a g) t_19.heap from hB_19)
  rw [ht_19] at hB_19
  have hP := hB_19
  refine lv_iinc (v := 6) (lv' := [(2, .int 6), (1, .int 0), (0, .ref (a 0))]) hx hb dX11_carryOutText_75 hl (k := 0) rfl (by decide) (by decide) rfl (fun ls hl => ?_)
  refine lv_goto (tgt := 54) hx hb dX11_carryOutText_78 (by decide) ?_
  refine lv_iload_n hx hb dX11_carryOutText_54 rfl (lv_at hl 0 rfl) ?_
  refine lv_bipush (v := 8) hx hb dX11_carryOutText_55 (by decide) ?_
  refine lv_icmp_ge (tgt := 81) hx hb dX11_carryOutText_57 (by decide) (fun c_20 => absurd c_20 (by decide)) (fun c_20 => ?_)
  refine lv_aload_n hx hb dX11_carryOutText_60 rfl (lv_at hl 2 rfl) ?_
  refine va_get (D := (dC, dI)) (ci := 13) (v := .ref (a 5)) (C := RX11) (T := TX11) (N := 13) hx hb hts hiX11 hown hK hP 0 (o_0 a g) rfl 2 (by decide) hf22 (fun _ h9 => h9) rfl dX11_carryOutText_61 ?_
  refine lv_iload_n hx hb dX11_carryOutText_64 rfl (lv_at hl 0 rfl) ?_
  refine va_aldq hx hb hK hP 5 1 (o_5 a g) rfl (by unfold vp_in; decide) dX11_carryOutText_65 ?_
  refine W.eq (g2 := F0 m 66 ls [.ref (a 130)]) rfl ?_
  refine lv_aload_n hx hb dX11_carryOutText_66 rfl (lv_at hl 2 rfl) ?_
  refine va_get (D := (dC, dI)) (ci := 13) (v := .ref (a 4)) (C := RX11) (T := TX11) (N := 13) hx hb hts hiX11 hown hK hP 0 (o_0 a g) rfl 1 (by decide) hf18 (fun _ h9 => h9) rfl dX11_carryOutText_67 ?_
  refine lv_iload_n hx hb dX11_carryOutText_70 rfl (lv_at hl 0 rfl) ?_
  refine va_aldq hx hb hK hP 4 1 (o_4 a g) rfl (by unfold vp_in; decide) dX11_carryOutText_71 ?_
  refine W.eq (g2 := F0 m 72 ls [.ref (a 114), .ref (a 130)]) rfl ?_
  refine va_callv (va_runV (As := [.ref (a 114)]) (rest := []) ⟨hx, hb, hml, hown, hts⟩ (c_X9_takeOver l dC dI g (offW a g) (a 130) (a 138) (a 114) (a 122) 130 (o_130 a g) 114 (o_114 a g)  H_19.size) (cwV 1 hts gX11_carryOutText_X9_takeOver rfl rfl rfl (by decide +kernel) ⟨Nat.le_of_ble_eq_true rfl, Nat.le_of_ble_eq_true rfl⟩) ⟨PG_blind, va_recv hK hP (ci := 11) (q0 := 130) rfl (o_130 a g), PG_call hK hG hS hP hD (A_all hD hA hS.1)⟩ rfl rfl hl.1 rfl (lv_room (Nat.le_of_ble_eq_true rfl)) dX11_carryOutText_72 ⟨Nat.le_of_ble_eq_true rfl, Nat.le_of_ble_eq_true rfl⟩) hS (fun q _ h => (A_all hD hA hS.1) q h) (A_all hD hA hS.1) (fun u_21 t_21 H_21 L_21 ht_21 hvm_21 hw_21 hB_21 hz_21 hk_21 hS => ?_)
  replace hB_21 := (show va_P (dC, dI) vwCl (offW a g) t_21.heap from hB_21)
  rw [ht_21] at hB_21
  have hP := hB_21
  refine lv_iinc (v := 7) (lv' := [(2, .int 7), (1, .int 0), (0, .ref (a 0))]) hx hb dX11_carryOutText_75 hl (k := 0) rfl (by decide) (by decide) rfl (fun ls hl => ?_)
  refine lv_goto (tgt := 54) hx hb dX11_carryOutText_78 (by decide) ?_
  refine lv_iload_n hx hb dX11_carryOutText_54 rfl (lv_at hl 0 rfl) ?_
  refine lv_bipush (v := 8) hx hb dX11_carryOutText_55 (by decide) ?_
  refine lv_icmp_ge (tgt := 81) hx hb dX11_carryOutText_57 (by decide) (fun c_22 => absurd c_22 (by decide)) (fun c_22 => ?_)
  refine lv_aload_n hx hb dX11_carryOutText_60 rfl (lv_at hl 2 rfl) ?_
  refine va_get (D := (dC, dI)) (ci := 13) (v := .ref (a 5)) (C := RX11) (T := TX11) (N := 13) hx hb hts hiX11 hown hK hP 0 (o_0 a g) rfl 2 (by decide) hf22 (fun _ h9 => h9) rfl dX11_carryOutText_61 ?_
  refine lv_iload_n hx hb dX11_carryOutText_64 rfl (lv_at hl 0 rfl) ?_
  refine va_aldq hx hb hK hP 5 1 (o_5 a g) rfl (by unfold vp_in; decide) dX11_carryOutText_65 ?_
  refine W.eq (g2 := F0 m 66 ls [.ref (a 131)]) rfl ?_
  refine lv_aload_n hx hb dX11_carryOutText_66 rfl (lv_at hl 2 rfl) ?_
  refine va_get (D := (dC, dI)) (ci := 13) (v := .ref (a 4)) (C := RX11) (T := TX11) (N := 13) hx hb hts hiX11 hown hK hP 0 (o_0 a g) rfl 1 (by decide) hf18 (fun _ h9 => h9) rfl dX11_carryOutText_67 ?_
  refine lv_iload_n hx hb dX11_carryOutText_70 rfl (lv_at hl 0 rfl) ?_
  refine va_aldq hx hb hK hP 4 1 (o_4 a g) rfl (by unfold vp_in; decide) dX11_carryOutText_71 ?_
  refine W.eq (g2 := F0 m 72 ls [.ref (a 115), .ref (a 131)]) rfl ?_
  refine va_callv (va_runV (As := [.ref (a 115)]) (rest := []) ⟨hx, hb, hml, hown, hts⟩ (c_X9_takeOver l dC dI g (offW a g) (a 131) (a 139) (a 115) (a 123) 131 (o_131 a g) 115 (o_115 a g)  H_21.size) (cwV 1 hts gX11_carryOutText_X9_takeOver rfl rfl rfl (by decide +kernel) ⟨Nat.le_of_ble_eq_true rfl, Nat.le_of_ble_eq_true rfl⟩) ⟨PG_blind, va_recv hK hP (ci := 11) (q0 := 131) rfl (o_131 a g), PG_call hK hG hS hP hD (A_all hD hA hS.1)⟩ rfl rfl hl.1 rfl (lv_room (Nat.le_of_ble_eq_true rfl)) dX11_carryOutText_72 ⟨Nat.le_of_ble_eq_true rfl, Nat.le_of_ble_eq_true rfl⟩) hS (fun q _ h => (A_all hD hA hS.1) q h) (A_all hD hA hS.1) (fun u_23 t_23 H_23 L_23 ht_23 hvm_23 hw_23 hB_23 hz_23 hk_23 hS => ?_)
  replace hB_23 := (show va_P (dC, dI) vwCl (offW a g) t_23.heap from hB_23)
  rw [ht_23] at hB_23
  have hP := hB_23
  refine lv_iinc (v := 8) (lv' := [(2, .int 8), (1, .int 0), (0, .ref (a 0))]) hx hb dX11_carryOutText_75 hl (k := 0) rfl (by decide) (by decide) rfl (fun ls hl => ?_)
  refine lv_goto (tgt := 54) hx hb dX11_carryOutText_78 (by decide) ?_
  refine lv_iload_n hx hb dX11_carryOutText_54 rfl (lv_at hl 0 rfl) ?_
  refine lv_bipush (v := 8) hx hb dX11_carryOutText_55 (by decide) ?_
  refine lv_icmp_ge (tgt := 81) hx hb dX11_carryOutText_57 (by decide) (fun c_24 => ?_) (fun c_24 => absurd (by decide) c_24)
  refine lv_aload_n hx hb dX11_carryOutText_81 rfl (lv_at hl 2 rfl) ?_
  refine va_get (D := (dC, dI)) (ci := 13) (v := .ref (a 64)) (C := RX11) (T := TX11) (N := 13) hx hb hts hiX11 hown hK hP 0 (o_0 a g) rfl 10 (by decide) hf71 (fun _ h9 => h9) rfl dX11_carryOutText_82 ?_
  refine va_callv (va_runV (As := []) (rest := []) ⟨hx, hb, hml, hown, hts⟩ (c_X5_restart l dC dI g (offW a g) (a 64) (a 65) (a 67) (a 68) 64 (o_64 a g)  H_23.size) (cwV 0 hts gX11_carryOutText_X5_restart rfl rfl rfl (by decide +kernel) ⟨Nat.le_of_ble_eq_true rfl, Nat.le_of_ble_eq_true rfl⟩) ⟨PG_blind, va_recv hK hP (ci := 7) (q0 := 64) rfl (o_64 a g), PG_call hK hG hS hP hD (A_all hD hA hS.1)⟩ rfl rfl hl.1 rfl (lv_room (Nat.le_of_ble_eq_true rfl)) dX11_carryOutText_85 ⟨Nat.le_of_ble_eq_true rfl, Nat.le_of_ble_eq_true rfl⟩) hS (fun q _ h => (A_all hD hA hS.1) q h) (A_all hD hA hS.1) (fun u_25 t_25 H_25 L_25 ht_25 hvm_25 hw_25 hB_25 hz_25 hk_25 hS => ?_)
  replace hB_25 := (show va_P (dC, dI) vwCl (offW a g) t_25.heap from hB_25)
  rw [ht_25] at hB_25
  have hP := hB_25
  refine lv_iconst (v := 0) hx hb dX11_carryOutText_88 (by decide) ?_
  refine lv_istore_n (lv' := [(2, .int 0), (1, .int 0), (0, .ref (a 0))]) hx hb dX11_carryOutText_89 rfl hl (by decide) rfl (fun ls hl => ?_)
  refine lv_iload_n hx hb dX11_carryOutText_90 rfl (lv_at hl 0 rfl) ?_
  refine lv_sipush (v := 160) hx hb dX11_carryOutText_91 (by decide) ?_
  refine lv_icmp_gt (tgt := 148) hx hb dX11_carryOutText_94 (by decide) (fun c_26 => absurd c_26 (by decide)) (fun c_26 => ?_)
  refine lv_aload_n hx hb dX11_carryOutText_97 rfl (lv_at hl 2 rfl) ?_
  refine va_get (D := (dC, dI)) (ci := 13) (v := .ref (a 64)) (C := RX11) (T := TX11) (N := 13) hx hb hts hiX11 hown hK hP 0 (o_0 a g) rfl 10 (by decide) hf71 (fun _ h9 => h9) rfl dX11_carryOutText_98 ?_
  refine lv_aload_n hx hb dX11_carryOutText_101 rfl (lv_at hl 2 rfl) ?_
  refine va_get (D := (dC, dI)) (ci := 13) (v := .ref (a 8)) (C := RX11) (T := TX11) (N := 13) hx hb hts hiX11 hown hK hP 0 (o_0 a g) rfl 4 (by decide) hf33 (fun _ h9 => h9) rfl dX11_carryOutText_102 ?_
  refine va_calli (va_runV (As := [.ref (a 8)]) (rest := []) ⟨hx, hb, hml, hown, hts⟩ (c_X5_readStatement l dC dI g (offW a g) (a 64) (a 65) (a 67) (a 68) (a 66) (a 8) 64 (o_64 a g) 65 (o_65 a g)  H_25.size) (cwV 1 hts gX11_carryOutText_X5_readStatement rfl rfl rfl (by decide +kernel) ⟨Nat.le_of_ble_eq_true rfl, Nat.le_of_ble_eq_true rfl⟩) ⟨PG_blind, va_recv hK hP (ci := 7) (q0 := 64) rfl (o_64 a g), PG_call hK hG hS hP hD (A_all hD hA hS.1)⟩ rfl rfl hl.1 rfl (lv_room (Nat.le_of_ble_eq_true rfl)) dX11_carryOutText_105 ⟨Nat.le_of_ble_eq_true rfl, Nat.le_of_ble_eq_true rfl⟩) hS (fun q _ h => (A_all hD hA hS.1) q h) (A_all hD hA hS.1) (fun r_27 u_27 t_27 H_27 L_27 ht_27 hvm_27 hw_27 hB_27 hz_27 hk_27 hS => ?_)
  replace hB_27 := (show va_P (dC, dI) vwCl (offW a g) t_27.heap from hB_27)
  rw [ht_27] at hB_27
  have hP := hB_27
  obtain rfl : r_27 = 0 := hw_27
  refine lv_if_eq (tgt := 148) hx hb dX11_carryOutText_108 (by decide) (fun c_28 => ?_) (fun c_28 => absurd (by decide) c_28)
  refine lv_iload_n hx hb dX11_carryOutText_148 rfl (lv_at hl 0 rfl) ?_
  exact W.iret (v := 0) hx hb hr (fun t ht hW => ⟨⟨0, (), rfl, rfl, P_at ht hP⟩, hS.F ht⟩) hS.2.2 dX11_carryOutText_149
set_option maxHeartbeats 4000000 in
set_option maxRecDepth 100000 in
theorem c_X11_errorKind (l : Launch) (dC : Nat → ClassId) (dI : Nat → Nat → Nat) (g : Nat → ClassId) (a : Nat → Nat) (sz : Nat) : Met l yX11_errorKind wsX11_errorKind ({ frames := 4, cells := 0, slots := 0, locals := 84 }) (va_Pc [.ref (a 0)] (PG (dC, dI) g (offW a g) sz)) (va_Qi (fun (r : Int32) (_ : Unit) => r = 0) (fun (_ : Unit) (_ : State) => True) (va_A (offW a g) sz)) 0 0 (va_A (offW a g) sz) := by
  refine Met.ofW (cc := cX11_errorKind) (maxL := 1) (ret := (some .int)) (by decide) rfl ?_
  intro p e s m args below meth c s₁ B hml hv
  obtain ⟨rfl, hsz, hP, hK, hD0, hG⟩ := hv
  have hx := B.exec
  have hb := B.bytes
  have hr := B.returns
  have hts := atoms_spec (ws := wsX11_errorKind) B.pre
  have hown : s.vm.findClass RX11 = some m.cls := findClass_of_methodNamed B.named
  have hlocks := B.notSynchronized
  subst hsz
  have hD := hD0.self (sz := s.heap.size)
  generalize hAe : va_A (offW a g) s.heap.size = A at hD hG ⊢
  have hA : ∀ q : Nat, s.heap.size ≤ q → A q := fun q h => by rw [← hAe]; exact Or.inr h
  have hS : va_S A s.heap s.heap [] := va_S.rf
  have hl := lv_entry ([.ref (a 0)]) (n := 1) (Nat.le_of_ble_eq_true rfl)
  rw [lg_entry_eq]
  generalize (lg_sl ([.ref (a 0)]) ++ List.replicate (1 - (lg_sl ([.ref (a 0)])).length) Slot.unset).toArray = ls at hl ⊢
  have hl : lv_has ls 1 [(0, .ref (a 0))] := hl
  have hf71 := hts (Cond.fieldLink RX11 71 "RunmergeOffice" "reader" "LRunmergeOffice$Reader;") (by decide +kernel)
  have hiX11 : ∀ w ∈ u_ws RX11 TX11 13, w ∈ wsX11_errorKind := by decide +kernel
  have hiX5 : ∀ w ∈ u_ws RX5 TX5 13, w ∈ wsX11_errorKind := by decide +kernel
  refine lv_aload_n hx hb dX11_errorKind_0 rfl (lv_at hl 0 rfl) ?_
  refine va_calli (va_runV (As := []) (rest := []) ⟨hx, hb, hml, hown, hts⟩ (c_X11_carryOutText l dC dI g a  s.heap.size) (cwV 0 hts gX11_errorKind_X11_carryOutText rfl rfl rfl (by decide +kernel) ⟨Nat.le_of_ble_eq_true rfl, Nat.le_of_ble_eq_true rfl⟩) ⟨PG_blind, va_recv hK hP (ci := 13) (q0 := 0) rfl (o_0 a g), PG_call hK hG hS hP hD (A_all hD hA hS.1)⟩ rfl rfl hl.1 rfl (lv_room (Nat.le_of_ble_eq_true rfl)) dX11_errorKind_1 ⟨Nat.le_of_ble_eq_true rfl, Nat.le_of_ble_eq_true rfl⟩) hS (fun q _ h => (A_all hD hA hS.1) q h) (A_all hD hA hS.1) (fun r_1 u_1 t_1 H_1 L_1 ht_1 hvm_1 hw_1 hB_1 hz_1 hk_1 hS => ?_)
  replace hB_1 := (show va_P (dC, dI) vwCl (offW a g) t_1.heap from hB_1)
  rw [ht_1] at hB_1
  have hP := hB_1
  obtain rfl : r_1 = 0 := hw_1
  refine lv_pop hx hb dX11_errorKind_4 rfl ?_
  refine lv_aload_n hx hb dX11_errorKind_5 rfl (lv_at hl 0 rfl) ?_
  refine va_get (D := (dC, dI)) (ci := 13) (v := .ref (a 64)) (C := RX11) (T := TX11) (N := 13) hx hb hts hiX11 hown hK hP 0 (o_0 a g) rfl 10 (by decide) hf71 (fun _ h9 => h9) rfl dX11_errorKind_6 ?_
  refine va_getN (D := (dC, dI)) (ci := 7) (v := .int 0) (C := RX5) (T := TX5) (N := 13) hx hb hts hiX5 hown hK hP 64 (o_64 a g) rfl 11 (by decide) (nf_58 hG) (fun _ h9 => h9) rfl dX11_errorKind_9 ?_
  exact W.iret (v := 0) hx hb hr (fun t ht hW => ⟨⟨0, (), rfl, rfl, trivial⟩, hS.F ht⟩) hS.2.2 dX11_errorKind_12
set_option maxHeartbeats 4000000 in
set_option maxRecDepth 100000 in
theorem c_X11_errorPlace (l : Launch) (dC : Nat → ClassId) (dI : Nat → Nat → Nat) (g : Nat → ClassId) (a : Nat → Nat) (sz : Nat) : Met l yX11_errorPlace wsX11_errorPlace ({ frames := 4, cells := 0, slots := 0, locals := 84 }) (va_Pc [.ref (a 0)] (PG (dC, dI) g (offW a g) sz)) (va_Qi (fun (r : Int32) (_ : Unit) => r = -1) (fun (_ : Unit) (_ : State) => True) (va_A (offW a g) sz)) 0 0 (va_A (offW a g) sz) := by
  refine Met.ofW (cc := cX11_errorPlace) (maxL := 1) (ret := (some .int)) (by decide) rfl ?_
  intro p e s m args below meth c s₁ B hml hv
  obtain ⟨rfl, hsz, hP, hK, hD0, hG⟩ := hv
  have hx := B.exec
  have hb := B.bytes
  have hr := B.returns
  have hts := atoms_spec (ws := wsX11_errorPlace) B.pre
  have hown : s.vm.findClass RX11 = some m.cls := findClass_of_methodNamed B.named
  have hlocks := B.notSynchronized
  subst hsz
  have hD := hD0.self (sz := s.heap.size)
  generalize hAe : va_A (offW a g) s.heap.size = A at hD hG ⊢
  have hA : ∀ q : Nat, s.heap.size ≤ q → A q := fun q h => by rw [← hAe]; exact Or.inr h
  have hS : va_S A s.heap s.heap [] := va_S.rf
  have hl := lv_entry ([.ref (a 0)]) (n := 1) (Nat.le_of_ble_eq_true rfl)
  rw [lg_entry_eq]
  generalize (lg_sl ([.ref (a 0)]) ++ List.replicate (1 - (lg_sl ([.ref (a 0)])).length) Slot.unset).toArray = ls at hl ⊢
  have hl : lv_has ls 1 [(0, .ref (a 0))] := hl
  have hf71 := hts (Cond.fieldLink RX11 71 "RunmergeOffice" "reader" "LRunmergeOffice$Reader;") (by decide +kernel)
  have hiX11 : ∀ w ∈ u_ws RX11 TX11 13, w ∈ wsX11_errorPlace := by decide +kernel
  have hiX5 : ∀ w ∈ u_ws RX5 TX5 13, w ∈ wsX11_errorPlace := by decide +kernel
  refine lv_aload_n hx hb dX11_errorPlace_0 rfl (lv_at hl 0 rfl) ?_
  refine va_calli (va_runV (As := []) (rest := []) ⟨hx, hb, hml, hown, hts⟩ (c_X11_carryOutText l dC dI g a  s.heap.size) (cwV 0 hts gX11_errorPlace_X11_carryOutText rfl rfl rfl (by decide +kernel) ⟨Nat.le_of_ble_eq_true rfl, Nat.le_of_ble_eq_true rfl⟩) ⟨PG_blind, va_recv hK hP (ci := 13) (q0 := 0) rfl (o_0 a g), PG_call hK hG hS hP hD (A_all hD hA hS.1)⟩ rfl rfl hl.1 rfl (lv_room (Nat.le_of_ble_eq_true rfl)) dX11_errorPlace_1 ⟨Nat.le_of_ble_eq_true rfl, Nat.le_of_ble_eq_true rfl⟩) hS (fun q _ h => (A_all hD hA hS.1) q h) (A_all hD hA hS.1) (fun r_1 u_1 t_1 H_1 L_1 ht_1 hvm_1 hw_1 hB_1 hz_1 hk_1 hS => ?_)
  replace hB_1 := (show va_P (dC, dI) vwCl (offW a g) t_1.heap from hB_1)
  rw [ht_1] at hB_1
  have hP := hB_1
  obtain rfl : r_1 = 0 := hw_1
  refine lv_pop hx hb dX11_errorPlace_4 rfl ?_
  refine lv_aload_n hx hb dX11_errorPlace_5 rfl (lv_at hl 0 rfl) ?_
  refine va_get (D := (dC, dI)) (ci := 13) (v := .ref (a 64)) (C := RX11) (T := TX11) (N := 13) hx hb hts hiX11 hown hK hP 0 (o_0 a g) rfl 10 (by decide) hf71 (fun _ h9 => h9) rfl dX11_errorPlace_6 ?_
  refine va_getN (D := (dC, dI)) (ci := 7) (v := .int (-1)) (C := RX5) (T := TX5) (N := 13) hx hb hts hiX5 hown hK hP 64 (o_64 a g) rfl 12 (by decide) (nf_59 hG) (fun _ h9 => h9) rfl dX11_errorPlace_9 ?_
  exact W.iret (v := (-1)) hx hb hr (fun t ht hW => ⟨⟨(-1), (), rfl, rfl, trivial⟩, hS.F ht⟩) hS.2.2 dX11_errorPlace_12
set_option maxHeartbeats 4000000 in
set_option maxRecDepth 100000 in
theorem c_X11_run (l : Launch) (dC : Nat → ClassId) (dI : Nat → Nat → Nat) (g : Nat → ClassId) (a : Nat → Nat) (sz : Nat) : Met l yX11_run wsX11_run ({ frames := 4, cells := 0, slots := 0, locals := 84 }) (va_Pc [.ref (a 0)] (PG (dC, dI) g (offW a g) sz)) (va_Qi (fun (r : Int32) (_ : Unit) => r = 0) (fun (_ : Unit) (_ : State) => True) (va_A (offW a g) sz)) 0 0 (va_A (offW a g) sz) := by
  refine Met.ofW (cc := cX11_run) (maxL := 3) (ret := (some .int)) (by decide) rfl ?_
  intro p e s m args below meth c s₁ B hml hv
  obtain ⟨rfl, hsz, hP, hK, hD0, hG⟩ := hv
  have hx := B.exec
  have hb := B.bytes
  have hr := B.returns
  have hts := atoms_spec (ws := wsX11_run) B.pre
  have hown : s.vm.findClass RX11 = some m.cls := findClass_of_methodNamed B.named
  have hlocks := B.notSynchronized
  subst hsz
  have hD := hD0.self (sz := s.heap.size)
  generalize hAe : va_A (offW a g) s.heap.size = A at hD hG ⊢
  have hA : ∀ q : Nat, s.heap.size ≤ q → A q := fun q h => by rw [← hAe]; exact Or.inr h
  have hS : va_S A s.heap s.heap [] := va_S.rf
  have hl := lv_entry ([.ref (a 0)]) (n := 3) (Nat.le_of_ble_eq_true rfl)
  rw [lg_entry_eq]
  generalize (lg_sl ([.ref (a 0)]) ++ List.replicate (3 - (lg_sl ([.ref (a 0)])).length) Slot.unset).toArray = ls at hl ⊢
  have hl : lv_has ls 3 [(0, .ref (a 0))] := hl
  have hf71 := hts (Cond.fieldLink RX11 71 "RunmergeOffice" "reader" "LRunmergeOffice$Reader;") (by decide +kernel)
  have hiX11 : ∀ w ∈ u_ws RX11 TX11 13, w ∈ wsX11_run := by decide +kernel
  have hiX5 : ∀ w ∈ u_ws RX5 TX5 13, w ∈ wsX11_run := by decide +kernel
  have hf18 := hts (Cond.fieldLink RX11 18 "RunmergeOffice" "tapes" "[LRunmergeOffice$Tape;") (by decide +kernel)
  have hf22 := hts (Cond.fieldLink RX11 22 "RunmergeOffice" "copies" "[LRunmergeOffice$Tape;") (by decide +kernel)
  refine lv_aload_n hx hb dX11_run_0 rfl (lv_at hl 0 rfl) ?_
  refine va_calli (va_runV (As := []) (rest := []) ⟨hx, hb, hml, hown, hts⟩ (c_X11_carryOutText l dC dI g a  s.heap.size) (cwV 0 hts gX11_run_X11_carryOutText rfl rfl rfl (by decide +kernel) ⟨Nat.le_of_ble_eq_true rfl, Nat.le_of_ble_eq_true rfl⟩) ⟨PG_blind, va_recv hK hP (ci := 13) (q0 := 0) rfl (o_0 a g), PG_call hK hG hS hP hD (A_all hD hA hS.1)⟩ rfl rfl hl.1 rfl (lv_room (Nat.le_of_ble_eq_true rfl)) dX11_run_1 ⟨Nat.le_of_ble_eq_true rfl, Nat.le_of_ble_eq_true rfl⟩) hS (fun q _ h => (A_all hD hA hS.1) q h) (A_all hD hA hS.1) (fun r_1 u_1 t_1 H_1 L_1 ht_1 hvm_1 hw_1 hB_1 hz_1 hk_1 hS => ?_)
  replace hB_1 := (show va_P (dC, dI) vwCl (offW a g) t_1.heap from hB_1)
  rw [ht_1] at hB_1
  have hP := hB_1
  obtain rfl : r_1 = 0 := hw_1
  refine lv_istore_n (lv' := [(1, .int 0), (0, .ref (a 0))]) hx hb dX11_run_4 rfl hl (by decide) rfl (fun ls hl => ?_)
  refine lv_aload_n hx hb dX11_run_5 rfl (lv_at hl 1 rfl) ?_
  refine va_get (D := (dC, dI)) (ci := 13) (v := .ref (a 64)) (C := RX11) (T := TX11) (N := 13) hx hb hts hiX11 hown hK hP 0 (o_0 a g) rfl 10 (by decide) hf71 (fun _ h9 => h9) rfl dX11_run_6 ?_
  refine va_getN (D := (dC, dI)) (ci := 7) (v := .int 0) (C := RX5) (T := TX5) (N := 13) hx hb hts hiX5 hown hK hP 64 (o_64 a g) rfl 11 (by decide) (nf_58 hG) (fun _ h9 => h9) rfl dX11_run_9 ?_
  refine lv_if_eq (tgt := 26) hx hb dX11_run_12 (by decide) (fun c_2 => ?_) (fun c_2 => absurd (by decide) c_2)
  refine lv_iconst (v := 0) hx hb dX11_run_26 (by decide) ?_
  refine lv_istore_n (lv' := [(2, .int 0), (1, .int 0), (0, .ref (a 0))]) hx hb dX11_run_27 rfl hl (by decide) rfl (fun ls hl => ?_)
  refine lv_iload_n hx hb dX11_run_28 rfl (lv_at hl 0 rfl) ?_
  refine lv_bipush (v := 8) hx hb dX11_run_29 (by decide) ?_
  refine lv_icmp_ge (tgt := 55) hx hb dX11_run_31 (by decide) (fun c_3 => absurd c_3 (by decide)) (fun c_3 => ?_)
  refine lv_aload_n hx hb dX11_run_34 rfl (lv_at hl 2 rfl) ?_
  refine va_get (D := (dC, dI)) (ci := 13) (v := .ref (a 4)) (C := RX11) (T := TX11) (N := 13) hx hb hts hiX11 hown hK hP 0 (o_0 a g) rfl 1 (by decide) hf18 (fun _ h9 => h9) rfl dX11_run_35 ?_
  refine lv_iload_n hx hb dX11_run_38 rfl (lv_at hl 0 rfl) ?_
  refine va_aldq hx hb hK hP 4 1 (o_4 a g) rfl (by unfold vp_in; decide) dX11_run_39 ?_
  refine W.eq (g2 := F0 m 40 ls [.ref (a 108)]) rfl ?_
  refine lv_aload_n hx hb dX11_run_40 rfl (lv_at hl 2 rfl) ?_
  refine va_get (D := (dC, dI)) (ci := 13) (v := .ref (a 5)) (C := RX11) (T := TX11) (N := 13) hx hb hts hiX11 hown hK hP 0 (o_0 a g) rfl 2 (by decide) hf22 (fun _ h9 => h9) rfl dX11_run_41 ?_
  refine lv_iload_n hx hb dX11_run_44 rfl (lv_at hl 0 rfl) ?_
  refine va_aldq hx hb hK hP 5 1 (o_5 a g) rfl (by unfold vp_in; decide) dX11_run_45 ?_
  refine W.eq (g2 := F0 m 46 ls [.ref (a 124), .ref (a 108)]) rfl ?_
  refine va_callv (va_runV (As := [.ref (a 124)]) (rest := []) ⟨hx, hb, hml, hown, hts⟩ (c_X9_takeOver l dC dI g (offW a g) (a 108) (a 116) (a 124) (a 132) 108 (o_108 a g) 124 (o_124 a g)  H_1.size) (cwV 1 hts gX11_run_X9_takeOver rfl rfl rfl (by decide +kernel) ⟨Nat.le_of_ble_eq_true rfl, Nat.le_of_ble_eq_true rfl⟩) ⟨PG_blind, va_recv hK hP (ci := 11) (q0 := 108) rfl (o_108 a g), PG_call hK hG hS hP hD (A_all hD hA hS.1)⟩ rfl rfl hl.1 rfl (lv_room (Nat.le_of_ble_eq_true rfl)) dX11_run_46 ⟨Nat.le_of_ble_eq_true rfl, Nat.le_of_ble_eq_true rfl⟩) hS (fun q _ h => (A_all hD hA hS.1) q h) (A_all hD hA hS.1) (fun u_4 t_4 H_4 L_4 ht_4 hvm_4 hw_4 hB_4 hz_4 hk_4 hS => ?_)
  replace hB_4 := (show va_P (dC, dI) vwCl (offW a g) t_4.heap from hB_4)
  rw [ht_4] at hB_4
  have hP := hB_4
  refine lv_iinc (v := 1) (lv' := [(2, .int 1), (1, .int 0), (0, .ref (a 0))]) hx hb dX11_run_49 hl (k := 0) rfl (by decide) (by decide) rfl (fun ls hl => ?_)
  refine lv_goto (tgt := 28) hx hb dX11_run_52 (by decide) ?_
  refine lv_iload_n hx hb dX11_run_28 rfl (lv_at hl 0 rfl) ?_
  refine lv_bipush (v := 8) hx hb dX11_run_29 (by decide) ?_
  refine lv_icmp_ge (tgt := 55) hx hb dX11_run_31 (by decide) (fun c_5 => absurd c_5 (by decide)) (fun c_5 => ?_)
  refine lv_aload_n hx hb dX11_run_34 rfl (lv_at hl 2 rfl) ?_
  refine va_get (D := (dC, dI)) (ci := 13) (v := .ref (a 4)) (C := RX11) (T := TX11) (N := 13) hx hb hts hiX11 hown hK hP 0 (o_0 a g) rfl 1 (by decide) hf18 (fun _ h9 => h9) rfl dX11_run_35 ?_
  refine lv_iload_n hx hb dX11_run_38 rfl (lv_at hl 0 rfl) ?_
  refine va_aldq hx hb hK hP 4 1 (o_4 a g) rfl (by unfold vp_in; decide) dX11_run_39 ?_
  refine W.eq (g2 := F0 m 40 ls [.ref (a 109)]) rfl ?_
  refine lv_aload_n hx hb dX11_run_40 rfl (lv_at hl 2 rfl) ?_
  refine va_get (D := (dC, dI)) (ci := 13) (v := .ref (a 5)) (C := RX11) (T := TX11) (N := 13) hx hb hts hiX11 hown hK hP 0 (o_0 a g) rfl 2 (by decide) hf22 (fun _ h9 => h9) rfl dX11_run_41 ?_
  refine lv_iload_n hx hb dX11_run_44 rfl (lv_at hl 0 rfl) ?_
  refine va_aldq hx hb hK hP 5 1 (o_5 a g) rfl (by unfold vp_in; decide) dX11_run_45 ?_
  refine W.eq (g2 := F0 m 46 ls [.ref (a 125), .ref (a 109)]) rfl ?_
  refine va_callv (va_runV (As := [.ref (a 125)]) (rest := []) ⟨hx, hb, hml, hown, hts⟩ (c_X9_takeOver l dC dI g (offW a g) (a 109) (a 117) (a 125) (a 133) 109 (o_109 a g) 125 (o_125 a g)  H_4.size) (cwV 1 hts gX11_run_X9_takeOver rfl rfl rfl (by decide +kernel) ⟨Nat.le_of_ble_eq_true rfl, Nat.le_of_ble_eq_true rfl⟩) ⟨PG_blind, va_recv hK hP (ci := 11) (q0 := 109) rfl (o_109 a g), PG_call hK hG hS hP hD (A_all hD hA hS.1)⟩ rfl rfl hl.1 rfl (lv_room (Nat.le_of_ble_eq_true rfl)) dX11_run_46 ⟨Nat.le_of_ble_eq_true rfl, Nat.le_of_ble_eq_true rfl⟩) hS (fun q _ h => (A_all hD hA hS.1) q h) (A_all hD hA hS.1) (fun u_6 t_6 H_6 L_6 ht_6 hvm_6 hw_6 hB_6 hz_6 hk_6 hS => ?_)
  replace hB_6 := (show va_P (dC, dI) vwCl (offW a g) t_6.heap from hB_6)
  rw [ht_6] at hB_6
  have hP := hB_6
  refine lv_iinc (v := 2) (lv' := [(2, .int 2), (1, .int 0), (0, .ref (a 0))]) hx hb dX11_run_49 hl (k := 0) rfl (by decide) (by decide) rfl (fun ls hl => ?_)
  refine lv_goto (tgt := 28) hx hb dX11_run_52 (by decide) ?_
  refine lv_iload_n hx hb dX11_run_28 rfl (lv_at hl 0 rfl) ?_
  refine lv_bipush (v := 8) hx hb dX11_run_29 (by decide) ?_
  refine lv_icmp_ge (tgt := 55) hx hb dX11_run_31 (by decide) (fun c_7 => absurd c_7 (by decide)) (fun c_7 => ?_)
  refine lv_aload_n hx hb dX11_run_34 rfl (lv_at hl 2 rfl) ?_
  refine va_get (D := (dC, dI)) (ci := 13) (v := .ref (a 4)) (C := RX11) (T := TX11) (N := 13) hx hb hts hiX11 hown hK hP 0 (o_0 a g) rfl 1 (by decide) hf18 (fun _ h9 => h9) rfl dX11_run_35 ?_
  refine lv_iload_n hx hb dX11_run_38 rfl (lv_at hl 0 rfl) ?_
  refine va_aldq hx hb hK hP 4 1 (o_4 a g) rfl (by unfold vp_in; decide) dX11_run_39 ?_
  refine W.eq (g2 := F0 m 40 ls [.ref (a 110)]) rfl ?_
  refine lv_aload_n hx hb dX11_run_40 rfl (lv_at hl 2 rfl) ?_
  refine va_get (D := (dC, dI)) (ci := 13) (v := .ref (a 5)) (C := RX11) (T := TX11) (N := 13) hx hb hts hiX11 hown hK hP 0 (o_0 a g) rfl 2 (by decide) hf22 (fun _ h9 => h9) rfl dX11_run_41 ?_
  refine lv_iload_n hx hb dX11_run_44 rfl (lv_at hl 0 rfl) ?_
  refine va_aldq hx hb hK hP 5 1 (o_5 a g) rfl (by unfold vp_in; decide) dX11_run_45 ?_
  refine W.eq (g2 := F0 m 46 ls [.ref (a 126), .ref (a 110)]) rfl ?_
  refine va_callv (va_runV (As := [.ref (a 126)]) (rest := []) ⟨hx, hb, hml, hown, hts⟩ (c_X9_takeOver l dC dI g (offW a g) (a 110) (a 118) (a 126) (a 134) 110 (o_110 a g) 126 (o_126 a g)  H_6.size) (cwV 1 hts gX11_run_X9_takeOver rfl rfl rfl (by decide +kernel) ⟨Nat.le_of_ble_eq_true rfl, Nat.le_of_ble_eq_true rfl⟩) ⟨PG_blind, va_recv hK hP (ci := 11) (q0 := 110) rfl (o_110 a g), PG_call hK hG hS hP hD (A_all hD hA hS.1)⟩ rfl rfl hl.1 rfl (lv_room (Nat.le_of_ble_eq_true rfl)) dX11_run_46 ⟨Nat.le_of_ble_eq_true rfl, Nat.le_of_ble_eq_true rfl⟩) hS (fun q _ h => (A_all hD hA hS.1) q h) (A_all hD hA hS.1) (fun u_8 t_8 H_8 L_8 ht_8 hvm_8 hw_8 hB_8 hz_8 hk_8 hS => ?_)
  replace hB_8 := (show va_P (dC, dI) vwCl (offW a g) t_8.heap from hB_8)
  rw [ht_8] at hB_8
  have hP := hB_8
  refine lv_iinc (v := 3) (lv' := [(2, .int 3), (1, .int 0), (0, .ref (a 0))]) hx hb dX11_run_49 hl (k := 0) rfl (by decide) (by decide) rfl (fun ls hl => ?_)
  refine lv_goto (tgt := 28) hx hb dX11_run_52 (by decide) ?_
  refine lv_iload_n hx hb dX11_run_28 rfl (lv_at hl 0 rfl) ?_
  refine lv_bipush (v := 8) hx hb dX11_run_29 (by decide) ?_
  refine lv_icmp_ge (tgt := 55) hx hb dX11_run_31 (by decide) (fun c_9 => absurd c_9 (by decide)) (fun c_9 => ?_)
  refine lv_aload_n hx hb dX11_run_34 rfl (lv_at hl 2 rfl) ?_
  refine va_get (D := (dC, dI)) (ci := 13) (v := .ref (a 4)) (C := RX11) (T := TX11) (N := 13) hx hb hts hiX11 hown hK hP 0 (o_0 a g) rfl 1 (by decide) hf18 (fun _ h9 => h9) rfl dX11_run_35 ?_
  refine lv_iload_n hx hb dX11_run_38 rfl (lv_at hl 0 rfl) ?_
  refine va_aldq hx hb hK hP 4 1 (o_4 a g) rfl (by unfold vp_in; decide) dX11_run_39 ?_
  refine W.eq (g2 := F0 m 40 ls [.ref (a 111)]) rfl ?_
  refine lv_aload_n hx hb dX11_run_40 rfl (lv_at hl 2 rfl) ?_
  refine va_get (D := (dC, dI)) (ci := 13) (v := .ref (a 5)) (C := RX11) (T := TX11) (N := 13) hx hb hts hiX11 hown hK hP 0 (o_0 a g) rfl 2 (by decide) hf22 (fun _ h9 => h9) rfl dX11_run_41 ?_
  refine lv_iload_n hx hb dX11_run_44 rfl (lv_at hl 0 rfl) ?_
  refine va_aldq hx hb hK hP 5 1 (o_5 a g) rfl (by unfold vp_in; decide) dX11_run_45 ?_
  refine W.eq (g2 := F0 m 46 ls [.ref (a 127), .ref (a 111)]) rfl ?_
  refine va_callv (va_runV (As := [.ref (a 127)]) (rest := []) ⟨hx, hb, hml, hown, hts⟩ (c_X9_takeOver l dC dI g (offW a g) (a 111) (a 119) (a 127) (a 135) 111 (o_111 a g) 127 (o_127 a g)  H_8.size) (cwV 1 hts gX11_run_X9_takeOver rfl rfl rfl (by decide +kernel) ⟨Nat.le_of_ble_eq_true rfl, Nat.le_of_ble_eq_true rfl⟩) ⟨PG_blind, va_recv hK hP (ci := 11) (q0 := 111) rfl (o_111 a g), PG_call hK hG hS hP hD (A_all hD hA hS.1)⟩ rfl rfl hl.1 rfl (lv_room (Nat.le_of_ble_eq_true rfl)) dX11_run_46 ⟨Nat.le_of_ble_eq_true rfl, Nat.le_of_ble_eq_true rfl⟩) hS (fun q _ h => (A_all hD hA hS.1) q h) (A_all hD hA hS.1) (fun u_10 t_10 H_10 L_10 ht_10 hvm_10 hw_10 hB_10 hz_10 hk_10 hS => ?_)
  replace hB_10 := (show va_P (dC, dI) vwCl (offW a g) t_10.heap from hB_10)
  rw [ht_10] at hB_10
  have hP := hB_10
  refine lv_iinc (v := 4) (lv' := [(2, .int 4), (1, .int 0), (0, .ref (a 0))]) hx hb dX11_run_49 hl (k := 0) rfl (by decide) (by decide) rfl (fun ls hl => ?_)
  refine lv_goto (tgt := 28) hx hb dX11_run_52 (by decide) ?_
  refine lv_iload_n hx hb dX11_run_28 rfl (lv_at hl 0 rfl) ?_
  refine lv_bipush (v := 8) hx hb dX11_run_29 (by decide) ?_
  refine lv_icmp_ge (tgt := 55) hx hb dX11_run_31 (by decide) (fun c_11 => absurd c_11 (by decide)) (fun c_11 => ?_)
  refine lv_aload_n hx hb dX11_run_34 rfl (lv_at hl 2 rfl) ?_
  refine va_get (D := (dC, dI)) (ci := 13) (v := .ref (a 4)) (C := RX11) (T := TX11) (N := 13) hx hb hts hiX11 hown hK hP 0 (o_0 a g) rfl 1 (by decide) hf18 (fun _ h9 => h9) rfl dX11_run_35 ?_
  refine lv_iload_n hx hb dX11_run_38 rfl (lv_at hl 0 rfl) ?_
  refine va_aldq hx hb hK hP 4 1 (o_4 a g) rfl (by unfold vp_in; decide) dX11_run_39 ?_
  refine W.eq (g2 := F0 m 40 ls [.ref (a 112)]) rfl ?_
  refine lv_aload_n hx hb dX11_run_40 rfl (lv_at hl 2 rfl) ?_
  refine va_get (D := (dC, dI)) (ci := 13) (v := .ref (a 5)) (C := RX11) (T := TX11) (N := 13) hx hb hts hiX11 hown hK hP 0 (o_0 a g) rfl 2 (by decide) hf22 (fun _ h9 => h9) rfl dX11_run_41 ?_
  refine lv_iload_n hx hb dX11_run_44 rfl (lv_at hl 0 rfl) ?_
  refine va_aldq hx hb hK hP 5 1 (o_5 a g) rfl (by unfold vp_in; decide) dX11_run_45 ?_
  refine W.eq (g2 := F0 m 46 ls [.ref (a 128), .ref (a 112)]) rfl ?_
  refine va_callv (va_runV (As := [.ref (a 128)]) (rest := []) ⟨hx, hb, hml, hown, hts⟩ (c_X9_takeOver l dC dI g (offW a g) (a 112) (a 120) (a 128) (a 136) 112 (o_112 a g) 128 (o_128 a g)  H_10.size) (cwV 1 hts gX11_run_X9_takeOver rfl rfl rfl (by decide +kernel) ⟨Nat.le_of_ble_eq_true rfl, Nat.le_of_ble_eq_true rfl⟩) ⟨PG_blind, va_recv hK hP (ci := 11) (q0 := 112) rfl (o_112 a g), PG_call hK hG hS hP hD (A_all hD hA hS.1)⟩ rfl rfl hl.1 rfl (lv_room (Nat.le_of_ble_eq_true rfl)) dX11_run_46 ⟨Nat.le_of_ble_eq_true rfl, Nat.le_of_ble_eq_true rfl⟩) hS (fun q _ h => (A_all hD hA hS.1) q h) (A_all hD hA hS.1) (fun u_12 t_12 H_12 L_12 ht_12 hvm_12 hw_12 hB_12 hz_12 hk_12 hS => ?_)
  replace hB_12 := (show va_P (dC, dI) vwCl (offW a g) t_12.heap from hB_12)
  rw [ht_12] at hB_12
  have hP := hB_12
  refine lv_iinc (v := 5) (lv' := [(2, .int 5), (1, .int 0), (0, .ref (a 0))]) hx hb dX11_run_49 hl (k := 0) rfl (by decide) (by decide) rfl (fun ls hl => ?_)
  refine lv_goto (tgt := 28) hx hb dX11_run_52 (by decide) ?_
  refine lv_iload_n hx hb dX11_run_28 rfl (lv_at hl 0 rfl) ?_
  refine lv_bipush (v := 8) hx hb dX11_run_29 (by decide) ?_
  refine lv_icmp_ge (tgt := 55) hx hb dX11_run_31 (by decide) (fun c_13 => absurd c_13 (by decide)) (fun c_13 => ?_)
  refine lv_aload_n hx hb dX11_run_34 rfl (lv_at hl 2 rfl) ?_
  refine va_get (D := (dC, dI)) (ci := 13) (v := .ref (a 4)) (C := RX11) (T := TX11) (N := 13) hx hb hts hiX11 hown hK hP 0 (o_0 a g) rfl 1 (by decide) hf18 (fun _ h9 => h9) rfl dX11_run_35 ?_
  refine lv_iload_n hx hb dX11_run_38 rfl (lv_at hl 0 rfl) ?_
  refine va_aldq hx hb hK hP 4 1 (o_4 a g) rfl (by unfold vp_in; decide) dX11_run_39 ?_
  refine W.eq (g2 := F0 m 40 ls [.ref (a 113)]) rfl ?_
  refine lv_aload_n hx hb dX11_run_40 rfl (lv_at hl 2 rfl) ?_
  refine va_get (D := (dC, dI)) (ci := 13) (v := .ref (a 5)) (C := RX11) (T := TX11) (N := 13) hx hb hts hiX11 hown hK hP 0 (o_0 a g) rfl 2 (by decide) hf22 (fun _ h9 => h9) rfl dX11_run_41 ?_
  refine lv_iload_n hx hb dX11_run_44 rfl (lv_at hl 0 rfl) ?_
  refine va_aldq hx hb hK hP 5 1 (o_5 a g) rfl (by unfold vp_in; decide) dX11_run_45 ?_
  refine W.eq (g2 := F0 m 46 ls [.ref (a 129), .ref (a 113)]) rfl ?_
  refine va_callv (va_runV (As := [.ref (a 129)]) (rest := []) ⟨hx, hb, hml, hown, hts⟩ (c_X9_takeOver l dC dI g (offW a g) (a 113) (a 121) (a 129) (a 137) 113 (o_113 a g) 129 (o_129 a g)  H_12.size) (cwV 1 hts gX11_run_X9_takeOver rfl rfl rfl (by decide +kernel) ⟨Nat.le_of_ble_eq_true rfl, Nat.le_of_ble_eq_true rfl⟩) ⟨PG_blind, va_recv hK hP (ci := 11) (q0 := 113) rfl (o_113 a g), PG_call hK hG hS hP hD (A_all hD hA hS.1)⟩ rfl rfl hl.1 rfl (lv_room (Nat.le_of_ble_eq_true rfl)) dX11_run_46 ⟨Nat.le_of_ble_eq_true rfl, Nat.le_of_ble_eq_true rfl⟩) hS (fun q _ h => (A_all hD hA hS.1) q h) (A_all hD hA hS.1) (fun u_14 t_14 H_14 L_14 ht_14 hvm_14 hw_14 hB_14 hz_14 hk_14 hS => ?_)
  replace hB_14 := (show va_P (dC, dI) vwCl (offW a g) t_14.heap from hB_14)
  rw [ht_14] at hB_14
  have hP := hB_14
  refine lv_iinc (v := 6) (lv' := [(2, .int 6), (1, .int 0), (0, .ref (a 0))]) hx hb dX11_run_49 hl (k := 0) rfl (by decide) (by decide) rfl (fun ls hl => ?_)
  refine lv_goto (tgt := 28) hx hb dX11_run_52 (by decide) ?_
  refine lv_iload_n hx hb dX11_run_28 rfl (lv_at hl 0 rfl) ?_
  refine lv_bipush (v := 8) hx hb dX11_run_29 (by decide) ?_
  refine lv_icmp_ge (tgt := 55) hx hb dX11_run_31 (by decide) (fun c_15 => absurd c_15 (by decide)) (fun c_15 => ?_)
  refine lv_aload_n hx hb dX11_run_34 rfl (lv_at hl 2 rfl) ?_
  refine va_get (D := (dC, dI)) (ci := 13) (v := .ref (a 4)) (C := RX11) (T := TX11) (N := 13) hx hb hts hiX11 hown hK hP 0 (o_0 a g) rfl 1 (by decide) hf18 (fun _ h9 => h9) rfl dX11_run_35 ?_
  refine lv_iload_n hx hb dX11_run_38 rfl (lv_at hl 0 rfl) ?_
  refine va_aldq hx hb hK hP 4 1 (o_4 a g) rfl (by unfold vp_in; decide) dX11_run_39 ?_
  refine W.eq (g2 := F0 m 40 ls [.ref (a 114)]) rfl ?_
  refine lv_aload_n hx hb dX11_run_40 rfl (lv_at hl 2 rfl) ?_
  refine va_get (D := (dC, dI)) (ci := 13) (v := .ref (a 5)) (C := RX11) (T := TX11) (N := 13) hx hb hts hiX11 hown hK hP 0 (o_0 a g) rfl 2 (by decide) hf22 (fun _ h9 => h9) rfl dX11_run_41 ?_
  refine lv_iload_n hx hb dX11_run_44 rfl (lv_at hl 0 rfl) ?_
  refine va_aldq hx hb hK hP 5 1 (o_5 a g) rfl (by unfold vp_in; decide) dX11_run_45 ?_
  refine W.eq (g2 := F0 m 46 ls [.ref (a 130), .ref (a 114)]) rfl ?_
  refine va_callv (va_runV (As := [.ref (a 130)]) (rest := []) ⟨hx, hb, hml, hown, hts⟩ (c_X9_takeOver l dC dI g (offW a g) (a 114) (a 122) (a 130) (a 138) 114 (o_114 a g) 130 (o_130 a g)  H_14.size) (cwV 1 hts gX11_run_X9_takeOver rfl rfl rfl (by decide +kernel) ⟨Nat.le_of_ble_eq_true rfl, Nat.le_of_ble_eq_true rfl⟩) ⟨PG_blind, va_recv hK hP (ci := 11) (q0 := 114) rfl (o_114 a g), PG_call hK hG hS hP hD (A_all hD hA hS.1)⟩ rfl rfl hl.1 rfl (lv_room (Nat.le_of_ble_eq_true rfl)) dX11_run_46 ⟨Nat.le_of_ble_eq_true rfl, Nat.le_of_ble_eq_true rfl⟩) hS (fun q _ h => (A_all hD hA hS.1) q h) (A_all hD hA hS.1) (fun u_16 t_16 H_16 L_16 ht_16 hvm_16 hw_16 hB_16 hz_16 hk_16 hS => ?_)
  replace hB_16 := (show va_P (dC, dI) vwCl (offW a g) t_16.heap from hB_16)
  rw [ht_16] at hB_16
  have hP := hB_16
  refine lv_iinc (v := 7) (lv' := [(2, .int 7), (1, .int 0), (0, .ref (a 0))]) hx hb dX11_run_49 hl (k := 0) rfl (by decide) (by decide) rfl (fun ls hl => ?_)
  refine lv_goto (tgt := 28) hx hb dX11_run_52 (by decide) ?_
  refine lv_iload_n hx hb dX11_run_28 rfl (lv_at hl 0 rfl) ?_
  refine lv_bipush (v := 8) hx hb dX11_run_29 (by decide) ?_
  refine lv_icmp_ge (tgt := 55) hx hb dX11_run_31 (by decide) (fun c_17 => absurd c_17 (by decide)) (fun c_17 => ?_)
  refine lv_aload_n hx hb dX11_run_34 rfl (lv_at hl 2 rfl) ?_
  refine va_get (D := (dC, dI)) (ci := 13) (v := .ref (a 4)) (C := RX11) (T := TX11) (N := 13) hx hb hts hiX11 hown hK hP 0 (o_0 a g) rfl 1 (by decide) hf18 (fun _ h9 => h9) rfl dX11_run_35 ?_
  refine lv_iload_n hx hb dX11_run_38 rfl (lv_at hl 0 rfl) ?_
  refine va_aldq hx hb hK hP 4 1 (o_4 a g) rfl (by unfold vp_in; decide) dX11_run_39 ?_
  refine W.eq (g2 := F0 m 40 ls [.ref (a 115)]) rfl ?_
  refine lv_aload_n hx hb dX11_run_40 rfl (lv_at hl 2 rfl) ?_
  refine va_get (D := (dC, dI)) (ci := 13) (v := .ref (a 5)) (C := RX11) (T := TX11) (N := 13) hx hb hts hiX11 hown hK hP 0 (o_0 a g) rfl 2 (by decide) hf22 (fun _ h9 => h9) rfl dX11_run_41 ?_
  refine lv_iload_n hx hb dX11_run_44 rfl (lv_at hl 0 rfl) ?_
  refine va_aldq hx hb hK hP 5 1 (o_5 a g) rfl (by unfold vp_in; decide) dX11_run_45 ?_
  refine W.eq (g2 := F0 m 46 ls [.ref (a 131), .ref (a 115)]) rfl ?_
  refine va_callv (va_runV (As := [.ref (a 131)]) (rest := []) ⟨hx, hb, hml, hown, hts⟩ (c_X9_takeOver l dC dI g (offW a g) (a 115) (a 123) (a 131) (a 139) 115 (o_115 a g) 131 (o_131 a g)  H_16.size) (cwV 1 hts gX11_run_X9_takeOver rfl rfl rfl (by decide +kernel) ⟨Nat.le_of_ble_eq_true rfl, Nat.le_of_ble_eq_true rfl⟩) ⟨PG_blind, va_recv hK hP (ci := 11) (q0 := 115) rfl (o_115 a g), PG_call hK hG hS hP hD (A_all hD hA hS.1)⟩ rfl rfl hl.1 rfl (lv_room (Nat.le_of_ble_eq_true rfl)) dX11_run_46 ⟨Nat.le_of_ble_eq_true rfl, Nat.le_of_ble_eq_true rfl⟩) hS (fun q _ h => (A_all hD hA hS.1) q h) (A_all hD hA hS.1) (fun u_18 t_18 H_18 L_18 ht_18 hvm_18 hw_18 hB_18 hz_18 hk_18 hS => ?_)
  replace hB_18 := (show va_P (dC, dI) vwCl (offW a g) t_18.heap from hB_18)
  rw [ht_18] at hB_18
  have hP := hB_18
  refine lv_iinc (v := 8) (lv' := [(2, .int 8), (1, .int 0), (0, .ref (a 0))]) hx hb dX11_run_49 hl (k := 0) rfl (by decide) (by decide) rfl (fun ls hl => ?_)
  refine lv_goto (tgt := 28) hx hb dX11_run_52 (by decide) ?_
  refine lv_iload_n hx hb dX11_run_28 rfl (lv_at hl 0 rfl) ?_
  refine lv_bipush (v := 8) hx hb dX11_run_29 (by decide) ?_
  refine lv_icmp_ge (tgt := 55) hx hb dX11_run_31 (by decide) (fun c_19 => ?_) (fun c_19 => absurd (by decide) c_19)
  refine lv_iload_n hx hb dX11_run_55 rfl (lv_at hl 1 rfl) ?_
  exact W.iret (v := 0) hx hb hr (fun t ht hW => ⟨⟨0, (), rfl, rfl, trivial⟩, hS.F ht⟩) hS.2.2 dX11_run_56
set_option maxHeartbeats 4000000 in
set_option maxRecDepth 100000 in
theorem c_X11_meanKey (l : Launch) (hlf : l.stackTraces = false) (dC : Nat → ClassId) (dI : Nat → Nat → Nat) (g : Nat → ClassId) (a : Nat → Nat) (x : Int32) (sz : Nat) : vx_Met l yX11_meanKey wsX11_meanKey ({ frames := 7, cells := 8, slots := 48, locals := 103 }) (va_Pc [.ref (a 0), .int x] (PG (dC, dI) g (offW a g) sz)) (va_Qd (fun (r : UInt64) (_ : Unit) => (TOKb x) = true ∧ r = FP.dconst0) (fun (_ : Unit) (_ : State) => True) (va_A (offW a g) sz)) (vx_X (fun _ : Unit => True) (fun E _ _ => E = "java/lang/IndexOutOfBoundsException" ∧ (TOKb x) = false) (va_A (offW a g) sz)) 8 48 (va_A (offW a g) sz) := by
  refine vx_ofW (cc := cX11_meanKey) (maxL := 5) (ret := (some .double)) (by decide) rfl ?_
  intro p e s m args below meth c s₁ B hml hno hv
  obtain ⟨rfl, hsz, hP, hK, hD0, hG⟩ := hv
  have hx := B.exec
  have hb := B.bytes
  have hr := B.returns
  have hts := atoms_spec (ws := wsX11_meanKey) B.pre
  have hown : s.vm.findClass RX11 = some m.cls := findClass_of_methodNamed B.named
  have hlocks := B.notSynchronized
  subst hsz
  have hD := hD0.self (sz := s.heap.size)
  generalize hAe : va_A (offW a g) s.heap.size = A at hD hG ⊢
  have hA : ∀ q : Nat, s.heap.size ≤ q → A q := fun q h => by rw [← hAe]; exact Or.inr h
  have hS : va_S A s.heap s.heap [] := va_S.rf
  have hl := lv_entry ([.ref (a 0), .int x]) (n := 5) (Nat.le_of_ble_eq_true rfl)
  rw [lg_entry_eq]
  generalize (lg_sl ([.ref (a 0), .int x]) ++ List.replicate (5 - (lg_sl ([.ref (a 0), .int x])).length) Slot.unset).toArray = ls at hl ⊢
  have hl : lv_has ls 5 [(0, .ref (a 0)), (1, .int x)] := hl
  have hiX9 : ∀ w ∈ u_ws RX9 TX9 2, w ∈ wsX11_meanKey := by decide +kernel
  refine lv_aload_n hx hb dX11_meanKey_0 rfl (lv_at hl 0 rfl) ?_
  refine lv_iload_n hx hb dX11_meanKey_1 rfl (lv_at hl 1 rfl) ?_
  refine vx_callq (vx_runV (As := [.int x]) (rest := []) ⟨hx, hb, hml, hown, hts⟩ (c_X11_tapeOf l hlf dC dI g (offW a g) (a 0) (a 1) (a 4) (a 5) (a 6) (a 8) (a 9) (a 12) (a 16) (a 22) (a 43) (a 64) (a 69) 0 (va_up (va_up (va_up (va_up (va_up (va_up (va_up (va_up (fun _ => none) 0 (some (a 108))) 1 (some (a 109))) 2 (some (a 110))) 3 (some (a 111))) 4 (some (a 112))) 5 (some (a 113))) 6 (some (a 114))) 7 (some (a 115))) (fun j => a (108 + j)) x 0 (o_0 a g) 4 (o_4 a g) (tp_at a) s.heap.size) (cwV 1 hts gX11_meanKey_X11_tapeOf rfl rfl rfl (by decide +kernel) ⟨Nat.le_of_ble_eq_true rfl, Nat.le_of_ble_eq_true rfl⟩) ⟨PG_blind, va_recv hK hP (ci := 13) (q0 := 0) rfl (o_0 a g), PG_call hK hG hS hP hD (A_all hD hA hS.1)⟩ rfl rfl hl.1 rfl (lv_room (Nat.le_of_ble_eq_true rfl)) dX11_meanKey_2 ⟨Nat.le_of_ble_eq_true rfl, Nat.le_of_ble_eq_true rfl⟩) hS (fun q _ h => (A_all hD hA hS.1) q h) (A_all hD hA hS.1) (fun q _ h => (A_all hD hA hS.1) q h) (fun E ce q9 u t H1 locs1 ht hvm hp9 hB9 hz hk hS9 hce hcv hcl => ?_) (fun r_1 u_1 t_1 H_1 L_1 ht_1 hvm_1 hw_1 hB_1 hz_1 hk_1 hS => ?_)
  · exact vx_out (fun x hx => (hno x hx).elim) hlocks hce hcv hcl (fun t ht hW => ⟨(), trivial, (by have h9 : E = "java/lang/IndexOutOfBoundsException" ∧ TOKb x = false := hB9; exact ⟨h9.1, by simp [h9.2]⟩), hS9.F ht⟩) hS9.2.2 (Nat.le_of_ble_eq_true rfl) (Nat.le_of_ble_eq_true rfl)
  replace hB_1 := (show va_P (dC, dI) vwCl (offW a g) t_1.heap from hB_1)
  rw [ht_1] at hB_1
  have hP := hB_1
  obtain ⟨j_1, hj_1, ex_1, rfl⟩ := hw_1
  have w_1 := o_tape a g j_1 hj_1
  refine lv_astore_n (lv' := [(2, .ref (a (108 + j_1))), (0, .ref (a 0)), (1, .int x)]) hx hb dX11_meanKey_5 rfl hl (by decide) rfl (fun ls hl => ?_)
  refine lv_aload_n hx hb dX11_meanKey_6 rfl (lv_at hl 0 rfl) ?_
  refine va_getN (D := (dC, dI)) (ci := 11) (v := .int 0) (C := RX9) (T := TX9) (N := 2) hx hb hts hiX9 hown hK hP (108 + j_1) w_1 rfl 1 (by decide) (nf_3 hG) (fun _ h9 => h9) rfl dX11_meanKey_7 ?_
  refine lv_if_ne (tgt := 15) hx hb dX11_meanKey_10 (by decide) (fun c_2 => absurd (by decide) c_2) (fun c_2 => ?_)
  refine lv_dconst0 hx hb dX11_meanKey_13 ?_
  refine W.widen (k := 8) (n := 48) (by omega) (by omega) ?_
  refine vx_ret ?_
  exact W.dret (v := FP.dconst0) hx hb hr (fun t ht hW => ⟨⟨FP.dconst0, (), rfl, ⟨by simp [TOK_j hj_1 ex_1], rfl⟩, trivial⟩, hS.F ht⟩) hS.2.2 dX11_meanKey_14
set_option maxHeartbeats 4000000 in
set_option maxRecDepth 100000 in
theorem c_X11_sortedShare (l : Launch) (dC : Nat → ClassId) (dI : Nat → Nat → Nat) (g : Nat → ClassId) (a : Nat → Nat) (sz : Nat) : Met l yX11_sortedShare wsX11_sortedShare ({ frames := 1, cells := 0, slots := 0, locals := 23 }) (va_Pc [.ref (a 0)] (PG (dC, dI) g (offW a g) sz)) (va_Qf (fun (r : UInt32) (_ : Unit) => r = FP.fdiv (FP.i2f 8) 1090519040) (fun (_ : Unit) (_ : State) => True) (va_A (offW a g) sz)) 0 0 (va_A (offW a g) sz) := by
  refine Met.ofW (cc := cX11_sortedShare) (maxL := 3) (ret := (some .float)) (by decide) rfl ?_
  intro p e s m args below meth c s₁ B hml hv
  obtain ⟨rfl, hsz, hP, hK, hD0, hG⟩ := hv
  have hx := B.exec
  have hb := B.bytes
  have hr := B.returns
  have hts := atoms_spec (ws := wsX11_sortedShare) B.pre
  have hown : s.vm.findClass RX11 = some m.cls := findClass_of_methodNamed B.named
  have hlocks := B.notSynchronized
  subst hsz
  have hD := hD0.self (sz := s.heap.size)
  generalize hAe : va_A (offW a g) s.heap.size = A at hD hG ⊢
  have hA : ∀ q : Nat, s.heap.size ≤ q → A q := fun q h => by rw [← hAe]; exact Or.inr h
  have hS : va_S A s.heap s.heap [] := va_S.rf
  have hl := lv_entry ([.ref (a 0)]) (n := 3) (Nat.le_of_ble_eq_true rfl)
  rw [lg_entry_eq]
  generalize (lg_sl ([.ref (a 0)]) ++ List.replicate (3 - (lg_sl ([.ref (a 0)])).length) Slot.unset).toArray = ls at hl ⊢
  have hl : lv_has ls 3 [(0, .ref (a 0))] := hl
  have hf18 := hts (Cond.fieldLink RX11 18 "RunmergeOffice" "tapes" "[LRunmergeOffice$Tape;") (by decide +kernel)
  have hiX11 : ∀ w ∈ u_ws RX11 TX11 13, w ∈ wsX11_sortedShare := by decide +kernel
  have hf10 := hts (Cond.fieldLink RX11 10 "RunmergeOffice" "book" "LRunmergeOffice$Book;") (by decide +kernel)
  have hk340 := hts (Jvm.Cond.constantFloat RX11 340 1090519040) (by decide +kernel)
  refine lv_iconst (v := 0) hx hb dX11_sortedShare_0 (by decide) ?_
  refine lv_istore_n (lv' := [(1, .int 0), (0, .ref (a 0))]) hx hb dX11_sortedShare_1 rfl hl (by decide) rfl (fun ls hl => ?_)
  refine lv_iconst (v := 0) hx hb dX11_sortedShare_2 (by decide) ?_
  refine lv_istore_n (lv' := [(2, .int 0), (1, .int 0), (0, .ref (a 0))]) hx hb dX11_sortedShare_3 rfl hl (by decide) rfl (fun ls hl => ?_)
  refine lv_iload_n hx hb dX11_sortedShare_4 rfl (lv_at hl 0 rfl) ?_
  refine lv_bipush (v := 8) hx hb dX11_sortedShare_5 (by decide) ?_
  refine lv_icmp_ge (tgt := 41) hx hb dX11_sortedShare_7 (by decide) (fun c_1 => absurd c_1 (by decide)) (fun c_1 => ?_)
  refine lv_iload_n hx hb dX11_sortedShare_10 rfl (lv_at hl 1 rfl) ?_
  refine lv_aload_n hx hb dX11_sortedShare_11 rfl (lv_at hl 2 rfl) ?_
  refine va_get (D := (dC, dI)) (ci := 13) (v := .ref (a 4)) (C := RX11) (T := TX11) (N := 13) hx hb hts hiX11 hown hK hP 0 (o_0 a g) rfl 1 (by decide) hf18 (fun _ h9 => h9) rfl dX11_sortedShare_12 ?_
  refine lv_iload_n hx hb dX11_sortedShare_15 rfl (lv_at hl 0 rfl) ?_
  refine va_aldq hx hb hK hP 4 1 (o_4 a g) rfl (by unfold vp_in; decide) dX11_sortedShare_16 ?_
  refine W.eq (g2 := F0 m 17 ls [.ref (a 108), .int 0]) rfl ?_
  refine lv_aload_n hx hb dX11_sortedShare_17 rfl (lv_at hl 2 rfl) ?_
  refine va_get (D := (dC, dI)) (ci := 13) (v := .ref (a 1)) (C := RX11) (T := TX11) (N := 13) hx hb hts hiX11 hown hK hP 0 (o_0 a g) rfl 0 (by decide) hf10 (fun _ h9 => h9) rfl dX11_sortedShare_18 ?_
  refine lv_iconst (v := 0) hx hb dX11_sortedShare_21 (by decide) ?_
  refine va_calli (va_runV (As := [.ref (a 1), .int 0]) (rest := [.int 0]) ⟨hx, hb, hml, hown, hts⟩ (c_X9_isInOrder l dC dI g (offW a g) (a 108) (a 116) (a 1) 0 108 (o_108 a g)  s.heap.size) (cwV 2 hts gX11_sortedShare_X9_isInOrder rfl rfl rfl (by decide +kernel) ⟨Nat.le_of_ble_eq_true rfl, Nat.le_of_ble_eq_true rfl⟩) ⟨PG_blind, va_recv hK hP (ci := 11) (q0 := 108) rfl (o_108 a g), PG_call hK hG hS hP hD (A_all hD hA hS.1)⟩ rfl rfl hl.1 rfl (lv_room (Nat.le_of_ble_eq_true rfl)) dX11_sortedShare_22 ⟨Nat.le_of_ble_eq_true rfl, Nat.le_of_ble_eq_true rfl⟩) hS (fun q _ h => (A_all hD hA hS.1) q h) (A_all hD hA hS.1) (fun r_2 u_2 t_2 H_2 L_2 ht_2 hvm_2 hw_2 hB_2 hz_2 hk_2 hS => ?_)
  replace hB_2 := (show va_P (dC, dI) vwCl (offW a g) t_2.heap from hB_2)
  rw [ht_2] at hB_2
  have hP := hB_2
  obtain rfl : r_2 = 1 := hw_2
  refine lv_if_eq (tgt := 32) hx hb dX11_sortedShare_25 (by decide) (fun c_3 => absurd c_3 (by decide)) (fun c_3 => ?_)
  refine lv_iconst (v := 1) hx hb dX11_sortedShare_28 (by decide) ?_
  refine lv_goto (tgt := 33) hx hb dX11_sortedShare_29 (by decide) ?_
  refine lv_iadd hx hb dX11_sortedShare_33 ?_
  refine lv_topi (fun x_4 ex_4 => ?_)
  obtain rfl : x_4 = 1 := ex_4.trans (by decide)
  refine lv_istore_n (lv' := [(1, .int 1), (2, .int 0), (0, .ref (a 0))]) hx hb dX11_sortedShare_34 rfl hl (by decide) rfl (fun ls hl => ?_)
  refine lv_iinc (v := 1) (lv' := [(2, .int 1), (1, .int 1), (0, .ref (a 0))]) hx hb dX11_sortedShare_35 hl (k := 1) rfl (by decide) (by decide) rfl (fun ls hl => ?_)
  refine lv_goto (tgt := 4) hx hb dX11_sortedShare_38 (by decide) ?_
  refine lv_iload_n hx hb dX11_sortedShare_4 rfl (lv_at hl 0 rfl) ?_
  refine lv_bipush (v := 8) hx hb dX11_sortedShare_5 (by decide) ?_
  refine lv_icmp_ge (tgt := 41) hx hb dX11_sortedShare_7 (by decide) (fun c_5 => absurd c_5 (by decide)) (fun c_5 => ?_)
  refine lv_iload_n hx hb dX11_sortedShare_10 rfl (lv_at hl 1 rfl) ?_
  refine lv_aload_n hx hb dX11_sortedShare_11 rfl (lv_at hl 2 rfl) ?_
  refine va_get (D := (dC, dI)) (ci := 13) (v := .ref (a 4)) (C := RX11) (T := TX11) (N := 13) hx hb hts hiX11 hown hK hP 0 (o_0 a g) rfl 1 (by decide) hf18 (fun _ h9 => h9) rfl dX11_sortedShare_12 ?_
  refine lv_iload_n hx hb dX11_sortedShare_15 rfl (lv_at hl 0 rfl) ?_
  refine va_aldq hx hb hK hP 4 1 (o_4 a g) rfl (by unfold vp_in; decide) dX11_sortedShare_16 ?_
  refine W.eq (g2 := F0 m 17 ls [.ref (a 109), .int 1]) rfl ?_
  refine lv_aload_n hx hb dX11_sortedShare_17 rfl (lv_at hl 2 rfl) ?_
  refine va_get (D := (dC, dI)) (ci := 13) (v := .ref (a 1)) (C := RX11) (T := TX11) (N := 13) hx hb hts hiX11 hown hK hP 0 (o_0 a g) rfl 0 (by decide) hf10 (fun _ h9 => h9) rfl dX11_sortedShare_18 ?_
  refine lv_iconst (v := 0) hx hb dX11_sortedShare_21 (by decide) ?_
  refine va_calli (va_runV (As := [.ref (a 1), .int 0]) (rest := [.int 1]) ⟨hx, hb, hml, hown, hts⟩ (c_X9_isInOrder l dC dI g (offW a g) (a 109) (a 117) (a 1) 0 109 (o_109 a g)  H_2.size) (cwV 2 hts gX11_sortedShare_X9_isInOrder rfl rfl rfl (by decide +kernel) ⟨Nat.le_of_ble_eq_true rfl, Nat.le_of_ble_eq_true rfl⟩) ⟨PG_blind, va_recv hK hP (ci := 11) (q0 := 109) rfl (o_109 a g), PG_call hK hG hS hP hD (A_all hD hA hS.1)⟩ rfl rfl hl.1 rfl (lv_room (Nat.le_of_ble_eq_true rfl)) dX11_sortedShare_22 ⟨Nat.le_of_ble_eq_true rfl, Nat.le_of_ble_eq_true rfl⟩) hS (fun q _ h => (A_all hD hA hS.1) q h) (A_all hD hA hS.1) (fun r_6 u_6 t_6 H_6 L_6 ht_6 hvm_6 hw_6 hB_6 hz_6 hk_6 hS => ?_)
  replace hB_6 := (show va_P (dC, dI) vwCl (offW a g) t_6.heap from hB_6)
  rw [ht_6] at hB_6
  have hP := hB_6
  obtain rfl : r_6 = 1 := hw_6
  refine lv_if_eq (tgt := 32) hx hb dX11_sortedShare_25 (by decide) (fun c_7 => absurd c_7 (by decide)) (fun c_7 => ?_)
  refine lv_iconst (v := 1) hx hb dX11_sortedShare_28 (by decide) ?_
  refine lv_goto (tgt := 33) hx hb dX11_sortedShare_29 (by decide) ?_
  refine lv_iadd hx hb dX11_sortedShare_33 ?_
  refine lv_topi (fun x_8 ex_8 => ?_)
  obtain rfl : x_8 = 2 := ex_8.trans (by decide)
  refine lv_istore_n (lv' := [(1, .int 2), (2, .int 1), (0, .ref (a 0))]) hx hb dX11_sortedShare_34 rfl hl (by decide) rfl (fun ls hl => ?_)
  refine lv_iinc (v := 2) (lv' := [(2, .int 2), (1, .int 2), (0, .ref (a 0))]) hx hb dX11_sortedShare_35 hl (k := 1) rfl (by decide) (by decide) rfl (fun ls hl => ?_)
  refine lv_goto (tgt := 4) hx hb dX11_sortedShare_38 (by decide) ?_
  refine lv_iload_n hx hb dX11_sortedShare_4 rfl (lv_at hl 0 rfl) ?_
  refine lv_bipush (v := 8) hx hb dX11_sortedShare_5 (by decide) ?_
  refine lv_icmp_ge (tgt := 41) hx hb dX11_sortedShare_7 (by decide) (fun c_9 => absurd c_9 (by decide)) (fun c_9 => ?_)
  refine lv_iload_n hx hb dX11_sortedShare_10 rfl (lv_at hl 1 rfl) ?_
  refine lv_aload_n hx hb dX11_sortedShare_11 rfl (lv_at hl 2 rfl) ?_
  refine va_get (D := (dC, dI)) (ci := 13) (v := .ref (a 4)) (C := RX11) (T := TX11) (N := 13) hx hb hts hiX11 hown hK hP 0 (o_0 a g) rfl 1 (by decide) hf18 (fun _ h9 => h9) rfl dX11_sortedShare_12 ?_
  refine lv_iload_n hx hb dX11_sortedShare_15 rfl (lv_at hl 0 rfl) ?_
  refine va_aldq hx hb hK hP 4 1 (o_4 a g) rfl (by unfold vp_in; decide) dX11_sortedShare_16 ?_
  refine W.eq (g2 := F0 m 17 ls [.ref (a 110), .int 2]) rfl ?_
  refine lv_aload_n hx hb dX11_sortedShare_17 rfl (lv_at hl 2 rfl) ?_
  refine va_get (D := (dC, dI)) (ci := 13) (v := .ref (a 1)) (C := RX11) (T := TX11) (N := 13) hx hb hts hiX11 hown hK hP 0 (o_0 a g) rfl 0 (by decide) hf10 (fun _ h9 => h9) rfl dX11_sortedShare_18 ?_
  refine lv_iconst (v := 0) hx hb dX11_sortedShare_21 (by decide) ?_
  refine va_calli (va_runV (As := [.ref (a 1), .int 0]) (rest := [.int 2]) ⟨hx, hb, hml, hown, hts⟩ (c_X9_isInOrder l dC dI g (offW a g) (a 110) (a 118) (a 1) 0 110 (o_110 a g)  H_6.size) (cwV 2 hts gX11_sortedShare_X9_isInOrder rfl rfl rfl (by decide +kernel) ⟨Nat.le_of_ble_eq_true rfl, Nat.le_of_ble_eq_true rfl⟩) ⟨PG_blind, va_recv hK hP (ci := 11) (q0 := 110) rfl (o_110 a g), PG_call hK hG hS hP hD (A_all hD hA hS.1)⟩ rfl rfl hl.1 rfl (lv_room (Nat.le_of_ble_eq_true rfl)) dX11_sortedShare_22 ⟨Nat.le_of_ble_eq_true rfl, Nat.le_of_ble_eq_true rfl⟩) hS (fun q _ h => (A_all hD hA hS.1) q h) (A_all hD hA hS.1) (fun r_10 u_10 t_10 H_10 L_10 ht_10 hvm_10 hw_10 hB_10 hz_10 hk_10 hS => ?_)
  replace hB_10 := (show va_P (dC, dI) vwCl (offW a g) t_10.heap from hB_10)
  rw [ht_10] at hB_10
  have hP := hB_10
  obtain rfl : r_10 = 1 := hw_10
  refine lv_if_eq (tgt := 32) hx hb dX11_sortedShare_25 (by decide) (fun c_11 => absurd c_11 (by decide)) (fun c_11 => ?_)
  refine lv_iconst (v := 1) hx hb dX11_sortedShare_28 (by decide) ?_
  refine lv_goto (tgt := 33) hx hb dX11_sortedShare_29 (by decide) ?_
  refine lv_iadd hx hb dX11_sortedShare_33 ?_
  refine lv_topi (fun x_12 ex_12 => ?_)
  obtain rfl : x_12 = 3 := ex_12.trans (by decide)
  refine lv_istore_n (lv' := [(1, .int 3), (2, .int 2), (0, .ref (a 0))]) hx hb dX11_sortedShare_34 rfl hl (by decide) rfl (fun ls hl => ?_)
  refine lv_iinc (v := 3) (lv' := [(2, .int 3), (1, .int 3), (0, .ref (a 0))]) hx hb dX11_sortedShare_35 hl (k := 1) rfl (by decide) (by decide) rfl (fun ls hl => ?_)
  refine lv_goto (tgt := 4) hx hb dX11_sortedShare_38 (by decide) ?_
  refine lv_iload_n hx hb dX11_sortedShare_4 rfl (lv_at hl 0 rfl) ?_
  refine lv_bipush (v := 8) hx hb dX11_sortedShare_5 (by decide) ?_
  refine lv_icmp_ge (tgt := 41) hx hb dX11_sortedShare_7 (by decide) (fun c_13 => absurd c_13 (by decide)) (fun c_13 => ?_)
  refine lv_iload_n hx hb dX11_sortedShare_10 rfl (lv_at hl 1 rfl) ?_
  refine lv_aload_n hx hb dX11_sortedShare_11 rfl (lv_at hl 2 rfl) ?_
  refine va_get (D := (dC, dI)) (ci := 13) (v := .ref (a 4)) (C := RX11) (T := TX11) (N := 13) hx hb hts hiX11 hown hK hP 0 (o_0 a g) rfl 1 (by decide) hf18 (fun _ h9 => h9) rfl dX11_sortedShare_12 ?_
  refine lv_iload_n hx hb dX11_sortedShare_15 rfl (lv_at hl 0 rfl) ?_
  refine va_aldq hx hb hK hP 4 1 (o_4 a g) rfl (by unfold vp_in; decide) dX11_sortedShare_16 ?_
  refine W.eq (g2 := F0 m 17 ls [.ref (a 111), .int 3]) rfl ?_
  refine lv_aload_n hx hb dX11_sortedShare_17 rfl (lv_at hl 2 rfl) ?_
  refine va_get (D := (dC, dI)) (ci := 13) (v := .ref (a 1)) (C := RX11) (T := TX11) (N := 13) hx hb hts hiX11 hown hK hP 0 (o_0 a g) rfl 0 (by decide) hf10 (fun _ h9 => h9) rfl dX11_sortedShare_18 ?_
  refine lv_iconst (v := 0) hx hb dX11_sortedShare_21 (by decide) ?_
  refine va_calli (va_runV (As := [.ref (a 1), .int 0]) (rest := [.int 3]) ⟨hx, hb, hml, hown, hts⟩ (c_X9_isInOrder l dC dI g (offW a g) (a 111) (a 119) (a 1) 0 111 (o_111 a g)  H_10.size) (cwV 2 hts gX11_sortedShare_X9_isInOrder rfl rfl rfl (by decide +kernel) ⟨Nat.le_of_ble_eq_true rfl, Nat.le_of_ble_eq_true rfl⟩) ⟨PG_blind, va_recv hK hP (ci := 11) (q0 := 111) rfl (o_111 a g), PG_call hK hG hS hP hD (A_all hD hA hS.1)⟩ rfl rfl hl.1 rfl (lv_room (Nat.le_of_ble_eq_true rfl)) dX11_sortedShare_22 ⟨Nat.le_of_ble_eq_true rfl, Nat.le_of_ble_eq_true rfl⟩) hS (fun q _ h => (A_all hD hA hS.1) q h) (A_all hD hA hS.1) (fun r_14 u_14 t_14 H_14 L_14 ht_14 hvm_14 hw_14 hB_14 hz_14 hk_14 hS => ?_)
  replace hB_14 := (show va_P (dC, dI) vwCl (offW a g) t_14.heap from hB_14)
  rw [ht_14] at hB_14
  have hP := hB_14
  obtain rfl : r_14 = 1 := hw_14
  refine lv_if_eq (tgt := 32) hx hb dX11_sortedShare_25 (by decide) (fun c_15 => absurd c_15 (by decide)) (fun c_15 => ?_)
  refine lv_iconst (v := 1) hx hb dX11_sortedShare_28 (by decide) ?_
  refine lv_goto (tgt := 33) hx hb dX11_sortedShare_29 (by decide) ?_
  refine lv_iadd hx hb dX11_sortedShare_33 ?_
  refine lv_topi (fun x_16 ex_16 => ?_)
  obtain rfl : x_16 = 4 := ex_16.trans (by decide)
  refine lv_istore_n (lv' := [(1, .int 4), (2, .int 3), (0, .ref (a 0))]) hx hb dX11_sortedShare_34 rfl hl (by decide) rfl (fun ls hl => ?_)
  refine lv_iinc (v := 4) (lv' := [(2, .int 4), (1, .int 4), (0, .ref (a 0))]) hx hb dX11_sortedShare_35 hl (k := 1) rfl (by decide) (by decide) rfl (fun ls hl => ?_)
  refine lv_goto (tgt := 4) hx hb dX11_sortedShare_38 (by decide) ?_
  refine lv_iload_n hx hb dX11_sortedShare_4 rfl (lv_at hl 0 rfl) ?_
  refine lv_bipush (v := 8) hx hb dX11_sortedShare_5 (by decide) ?_
  refine lv_icmp_ge (tgt := 41) hx hb dX11_sortedShare_7 (by decide) (fun c_17 => absurd c_17 (by decide)) (fun c_17 => ?_)
  refine lv_iload_n hx hb dX11_sortedShare_10 rfl (lv_at hl 1 rfl) ?_
  refine lv_aload_n hx hb dX11_sortedShare_11 rfl (lv_at hl 2 rfl) ?_
  refine va_get (D := (dC, dI)) (ci := 13) (v := .ref (a 4)) (C := RX11) (T := TX11) (N := 13) hx hb hts hiX11 hown hK hP 0 (o_0 a g) rfl 1 (by decide) hf18 (fun _ h9 => h9) rfl dX11_sortedShare_12 ?_
  refine lv_iload_n hx hb dX11_sortedShare_15 rfl (lv_at hl 0 rfl) ?_
  refine va_aldq hx hb hK hP 4 1 (o_4 a g) rfl (by unfold vp_in; decide) dX11_sortedShare_16 ?_
  refine W.eq (g2 := F0 m 17 ls [.ref (a 112), .int 4]) rfl ?_
  refine lv_aload_n hx hb dX11_sortedShare_17 rfl (lv_at hl 2 rfl) ?_
  refine va_get (D := (dC, dI)) (ci := 13) (v := .ref (a 1)) (C := RX11) (T := TX11) (N := 13) hx hb hts hiX11 hown hK hP 0 (o_0 a g) rfl 0 (by decide) hf10 (fun _ h9 => h9) rfl dX11_sortedShare_18 ?_
  refine lv_iconst (v := 0) hx hb dX11_sortedShare_21 (by decide) ?_
  refine va_calli (va_runV (As := [.ref (a 1), .int 0]) (rest := [.int 4]) ⟨hx, hb, hml, hown, hts⟩ (c_X9_isInOrder l dC dI g (offW a g) (a 112) (a 120) (a 1) 0 112 (o_112 a g)  H_14.size) (cwV 2 hts gX11_sortedShare_X9_isInOrder rfl rfl rfl (by decide +kernel) ⟨Nat.le_of_ble_eq_true rfl, Nat.le_of_ble_eq_true rfl⟩) ⟨PG_blind, va_recv hK hP (ci := 11) (q0 := 112) rfl (o_112 a g), PG_call hK hG hS hP hD (A_all hD hA hS.1)⟩ rfl rfl hl.1 rfl (lv_room (Nat.le_of_ble_eq_true rfl)) dX11_sortedShare_22 ⟨Nat.le_of_ble_eq_true rfl, Nat.le_of_ble_eq_true rfl⟩) hS (fun q _ h => (A_all hD hA hS.1) q h) (A_all hD hA hS.1) (fun r_18 u_18 t_18 H_18 L_18 ht_18 hvm_18 hw_18 hB_18 hz_18 hk_18 hS => ?_)
  replace hB_18 := (show va_P (dC, dI) vwCl (offW a g) t_18.heap from hB_18)
  rw [ht_18] at hB_18
  have hP := hB_18
  obtain rfl : r_18 = 1 := hw_18
  refine lv_if_eq (tgt := 32) hx hb dX11_sortedShare_25 (by decide) (fun c_19 => absurd c_19 (by decide)) (fun c_19 => ?_)
  refine lv_iconst (v := 1) hx hb dX11_sortedShare_28 (by decide) ?_
  refine lv_goto (tgt := 33) hx hb dX11_sortedShare_29 (by decide) ?_
  refine lv_iadd hx hb dX11_sortedShare_33 ?_
  refine lv_topi (fun x_20 ex_20 => ?_)
  obtain rfl : x_20 = 5 := ex_20.trans (by decide)
  refine lv_istore_n (lv' := [(1, .int 5), (2, .int 4), (0, .ref (a 0))]) hx hb dX11_sortedShare_34 rfl hl (by decide) rfl (fun ls hl => ?_)
  refine lv_iinc (v := 5) (lv' := [(2, .int 5), (1, .int 5), (0, .ref (a 0))]) hx hb dX11_sortedShare_35 hl (k := 1) rfl (by decide) (by decide) rfl (fun ls hl => ?_)
  refine lv_goto (tgt := 4) hx hb dX11_sortedShare_38 (by decide) ?_
  refine lv_iload_n hx hb dX11_sortedShare_4 rfl (lv_at hl 0 rfl) ?_
  refine lv_bipush (v := 8) hx hb dX11_sortedShare_5 (by decide) ?_
  refine lv_icmp_ge (tgt := 41) hx hb dX11_sortedShare_7 (by decide) (fun c_21 => absurd c_21 (by decide)) (fun c_21 => ?_)
  refine lv_iload_n hx hb dX11_sortedShare_10 rfl (lv_at hl 1 rfl) ?_
  refine lv_aload_n hx hb dX11_sortedShare_11 rfl (lv_at hl 2 rfl) ?_
  refine va_get (D := (dC, dI)) (ci := 13) (v := .ref (a 4)) (C := RX11) (T := TX11) (N := 13) hx hb hts hiX11 hown hK hP 0 (o_0 a g) rfl 1 (by decide) hf18 (fun _ h9 => h9) rfl dX11_sortedShare_12 ?_
  refine lv_iload_n hx hb dX11_sortedShare_15 rfl (lv_at hl 0 rfl) ?_
  refine va_aldq hx hb hK hP 4 1 (o_4 a g) rfl (by unfold vp_in; decide) dX11_sortedShare_16 ?_
  refine W.eq (g2 := F0 m 17 ls [.ref (a 113), .int 5]) rfl ?_
  refine lv_aload_n hx hb dX11_sortedShare_17 rfl (lv_at hl 2 rfl) ?_
  refine va_get (D := (dC, dI)) (ci := 13) (v := .ref (a 1)) (C := RX11) (T := TX11) (N := 13) hx hb hts hiX11 hown hK hP 0 (o_0 a g) rfl 0 (by decide) hf10 (fun _ h9 => h9) rfl dX11_sortedShare_18 ?_
  refine lv_iconst (v := 0) hx hb dX11_sortedShare_21 (by decide) ?_
  refine va_calli (va_runV (As := [.ref (a 1), .int 0]) (rest := [.int 5]) ⟨hx, hb, hml, hown, hts⟩ (c_X9_isInOrder l dC dI g (offW a g) (a 113) (a 121) (a 1) 0 113 (o_113 a g)  H_18.size) (cwV 2 hts gX11_sortedShare_X9_isInOrder rfl rfl rfl (by decide +kernel) ⟨Nat.le_of_ble_eq_true rfl, Nat.le_of_ble_eq_true rfl⟩) ⟨PG_blind, va_recv hK hP (ci := 11) (q0 := 113) rfl (o_113 a g), PG_call hK hG hS hP hD (A_all hD hA hS.1)⟩ rfl rfl hl.1 rfl (lv_room (Nat.le_of_ble_eq_true rfl)) dX11_sortedShare_22 ⟨Nat.le_of_ble_eq_true rfl, Nat.le_of_ble_eq_true rfl⟩) hS (fun q _ h => (A_all hD hA hS.1) q h) (A_all hD hA hS.1) (fun r_22 u_22 t_22 H_22 L_22 ht_22 hvm_22 hw_22 hB_22 hz_22 hk_22 hS => ?_)
  replace hB_22 := (show va_P (dC, dI) vwCl (offW a g) t_22.heap from hB_22)
  rw [ht_22] at hB_22
  have hP := hB_22
  obtain rfl : r_22 = 1 := hw_22
  refine lv_if_eq (tgt := 32) hx hb dX11_sortedShare_25 (by decide) (fun c_23 => absurd c_23 (by decide)) (fun c_23 => ?_)
  refine lv_iconst (v := 1) hx hb dX11_sortedShare_28 (by decide) ?_
  refine lv_goto (tgt := 33) hx hb dX11_sortedShare_29 (by decide) ?_
  refine lv_iadd hx hb dX11_sortedShare_33 ?_
  refine lv_topi (fun x_24 ex_24 => ?_)
  obtain rfl : x_24 = 6 := ex_24.trans (by decide)
  refine lv_istore_n (lv' := [(1, .int 6), (2, .int 5), (0, .ref (a 0))]) hx hb dX11_sortedShare_34 rfl hl (by decide) rfl (fun ls hl => ?_)
  refine lv_iinc (v := 6) (lv' := [(2, .int 6), (1, .int 6), (0, .ref (a 0))]) hx hb dX11_sortedShare_35 hl (k := 1) rfl (by decide) (by decide) rfl (fun ls hl => ?_)
  refine lv_goto (tgt := 4) hx hb dX11_sortedShare_38 (by decide) ?_
  refine lv_iload_n hx hb dX11_sortedShare_4 rfl (lv_at hl 0 rfl) ?_
  refine lv_bipush (v := 8) hx hb dX11_sortedShare_5 (by decide) ?_
  refine lv_icmp_ge (tgt := 41) hx hb dX11_sortedShare_7 (by decide) (fun c_25 => absurd c_25 (by decide)) (fun c_25 => ?_)
  refine lv_iload_n hx hb dX11_sortedShare_10 rfl (lv_at hl 1 rfl) ?_
  refine lv_aload_n hx hb dX11_sortedShare_11 rfl (lv_at hl 2 rfl) ?_
  refine va_get (D := (dC, dI)) (ci := 13) (v := .ref (a 4)) (C := RX11) (T := TX11) (N := 13) hx hb hts hiX11 hown hK hP 0 (o_0 a g) rfl 1 (by decide) hf18 (fun _ h9 => h9) rfl dX11_sortedShare_12 ?_
  refine lv_iload_n hx hb dX11_sortedShare_15 rfl (lv_at hl 0 rfl) ?_
  refine va_aldq hx hb hK hP 4 1 (o_4 a g) rfl (by unfold vp_in; decide) dX11_sortedShare_16 ?_
  refine W.eq (g2 := F0 m 17 ls [.ref (a 114), .int 6]) rfl ?_
  refine lv_aload_n hx hb dX11_sortedShare_17 rfl (lv_at hl 2 rfl) ?_
  refine va_get (D := (dC, dI)) (ci := 13) (v := .ref (a 1)) (C := RX11) (T := TX11) (N := 13) hx hb hts hiX11 hown hK hP 0 (o_0 a g) rfl 0 (by decide) hf10 (fun _ h9 => h9) rfl dX11_sortedShare_18 ?_
  refine lv_iconst (v := 0) hx hb dX11_sortedShare_21 (by decide) ?_
  refine va_calli (va_runV (As := [.ref (a 1), .int 0]) (rest := [.int 6]) ⟨hx, hb, hml, hown, hts⟩ (c_X9_isInOrder l dC dI g (offW a g) (a 114) (a 122) (a 1) 0 114 (o_114 a g)  H_22.size) (cwV 2 hts gX11_sortedShare_X9_isInOrder rfl rfl rfl (by decide +kernel) ⟨Nat.le_of_ble_eq_true rfl, Nat.le_of_ble_eq_true rfl⟩) ⟨PG_blind, va_recv hK hP (ci := 11) (q0 := 114) rfl (o_114 a g), PG_call hK hG hS hP hD (A_all hD hA hS.1)⟩ rfl rfl hl.1 rfl (lv_room (Nat.le_of_ble_eq_true rfl)) dX11_sortedShare_22 ⟨Nat.le_of_ble_eq_true rfl, Nat.le_of_ble_eq_true rfl⟩) hS (fun q _ h => (A_all hD hA hS.1) q h) (A_all hD hA hS.1) (fun r_26 u_26 t_26 H_26 L_26 ht_26 hvm_26 hw_26 hB_26 hz_26 hk_26 hS => ?_)
  replace hB_26 := (show va_P (dC, dI) vwCl (offW a g) t_26.heap from hB_26)
  rw [ht_26] at hB_26
  have hP := hB_26
  obtain rfl : r_26 = 1 := hw_26
  refine lv_if_eq (tgt := 32) hx hb dX11_sortedShare_25 (by decide) (fun c_27 => absurd c_27 (by decide)) (fun c_27 => ?_)
  refine lv_iconst (v := 1) hx hb dX11_sortedShare_28 (by decide) ?_
  refine lv_goto (tgt := 33) hx hb dX11_sortedShare_29 (by decide) ?_
  refine lv_iadd hx hb dX11_sortedShare_33 ?_
  refine lv_topi (fun x_28 ex_28 => ?_)
  obtain rfl : x_28 = 7 := ex_28.trans (by decide)
  refine lv_istore_n (lv' := [(1, .int 7), (2, .int 6), (0, .ref (a 0))]) hx hb dX11_sortedShare_34 rfl hl (by decide) rfl (fun ls hl => ?_)
  refine lv_iinc (v := 7) (lv' := [(2, .int 7), (1, .int 7), (0, .ref (a 0))]) hx hb dX11_sortedShare_35 hl (k := 1) rfl (by decide) (by decide) rfl (fun ls hl => ?_)
  refine lv_goto (tgt := 4) hx hb dX11_sortedShare_38 (by decide) ?_
  refine lv_iload_n hx hb dX11_sortedShare_4 rfl (lv_at hl 0 rfl) ?_
  refine lv_bipush (v := 8) hx hb dX11_sortedShare_5 (by decide) ?_
  refine lv_icmp_ge (tgt := 41) hx hb dX11_sortedShare_7 (by decide) (fun c_29 => absurd c_29 (by decide)) (fun c_29 => ?_)
  refine lv_iload_n hx hb dX11_sortedShare_10 rfl (lv_at hl 1 rfl) ?_
  refine lv_aload_n hx hb dX11_sortedShare_11 rfl (lv_at hl 2 rfl) ?_
  refine va_get (D := (dC, dI)) (ci := 13) (v := .ref (a 4)) (C := RX11) (T := TX11) (N := 13) hx hb hts hiX11 hown hK hP 0 (o_0 a g) rfl 1 (by decide) hf18 (fun _ h9 => h9) rfl dX11_sortedShare_12 ?_
  refine lv_iload_n hx hb dX11_sortedShare_15 rfl (lv_at hl 0 rfl) ?_
  refine va_aldq hx hb hK hP 4 1 (o_4 a g) rfl (by unfold vp_in; decide) dX11_sortedShare_16 ?_
  refine W.eq (g2 := F0 m 17 ls [.ref (a 115), .int 7]) rfl ?_
  refine lv_aload_n hx hb dX11_sortedShare_17 rfl (lv_at hl 2 rfl) ?_
  refine va_get (D := (dC, dI)) (ci := 13) (v := .ref (a 1)) (C := RX11) (T := TX11) (N := 13) hx hb hts hiX11 hown hK hP 0 (o_0 a g) rfl 0 (by decide) hf10 (fun _ h9 => h9) rfl dX11_sortedShare_18 ?_
  refine lv_iconst (v := 0) hx hb dX11_sortedShare_21 (by decide) ?_
  refine va_calli (va_runV (As := [.ref (a 1), .int 0]) (rest := [.int 7]) ⟨hx, hb, hml, hown, hts⟩ (c_X9_isInOrder l dC dI g (offW a g) (a 115) (a 123) (a 1) 0 115 (o_115 a g)  H_26.size) (cwV 2 hts gX11_sortedShare_X9_isInOrder rfl rfl rfl (by decide +kernel) ⟨Nat.le_of_ble_eq_true rfl, Nat.le_of_ble_eq_true rfl⟩) ⟨PG_blind, va_recv hK hP (ci := 11) (q0 := 115) rfl (o_115 a g), PG_call hK hG hS hP hD (A_all hD hA hS.1)⟩ rfl rfl hl.1 rfl (lv_room (Nat.le_of_ble_eq_true rfl)) dX11_sortedShare_22 ⟨Nat.le_of_ble_eq_true rfl, Nat.le_of_ble_eq_true rfl⟩) hS (fun q _ h => (A_all hD hA hS.1) q h) (A_all hD hA hS.1) (fun r_30 u_30 t_30 H_30 L_30 ht_30 hvm_30 hw_30 hB_30 hz_30 hk_30 hS => ?_)
  replace hB_30 := (show va_P (dC, dI) vwCl (offW a g) t_30.heap from hB_30)
  rw [ht_30] at hB_30
  have hP := hB_30
  obtain rfl : r_30 = 1 := hw_30
  refine lv_if_eq (tgt := 32) hx hb dX11_sortedShare_25 (by decide) (fun c_31 => absurd c_31 (by decide)) (fun c_31 => ?_)
  refine lv_iconst (v := 1) hx hb dX11_sortedShare_28 (by decide) ?_
  refine lv_goto (tgt := 33) hx hb dX11_sortedShare_29 (by decide) ?_
  refine lv_iadd hx hb dX11_sortedShare_33 ?_
  refine lv_topi (fun x_32 ex_32 => ?_)
  obtain rfl : x_32 = 8 := ex_32.trans (by decide)
  refine lv_istore_n (lv' := [(1, .int 8), (2, .int 7), (0, .ref (a 0))]) hx hb dX11_sortedShare_34 rfl hl (by decide) rfl (fun ls hl => ?_)
  refine lv_iinc (v := 8) (lv' := [(2, .int 8), (1, .int 8), (0, .ref (a 0))]) hx hb dX11_sortedShare_35 hl (k := 1) rfl (by decide) (by decide) rfl (fun ls hl => ?_)
  refine lv_goto (tgt := 4) hx hb dX11_sortedShare_38 (by decide) ?_
  refine lv_iload_n hx hb dX11_sortedShare_4 rfl (lv_at hl 0 rfl) ?_
  refine lv_bipush (v := 8) hx hb dX11_sortedShare_5 (by decide) ?_
  refine lv_icmp_ge (tgt := 41) hx hb dX11_sortedShare_7 (by decide) (fun c_33 => ?_) (fun c_33 => absurd (by decide) c_33)
  refine lv_iload_n hx hb dX11_sortedShare_41 rfl (lv_at hl 1 rfl) ?_
  refine lv_i2f hx hb dX11_sortedShare_42 ?_
  refine lv_ldcfw hx hb hown hk340 dX11_sortedShare_43 ?_
  refine lv_fdiv hx hb dX11_sortedShare_46 (by unfold vf_n32; decide +kernel) ?_
  exact W.fret (v := FP.fdiv (FP.i2f 8) 1090519040) hx hb hr (fun t ht hW => ⟨⟨FP.fdiv (FP.i2f 8) 1090519040, (), rfl, rfl, trivial⟩, hS.F ht⟩) hS.2.2 dX11_sortedShare_47
set_option maxHeartbeats 4000000 in
set_option maxRecDepth 100000 in
theorem c_X11_join (l : Launch) (dC : Nat → ClassId) (dI : Nat → Nat → Nat) (g : Nat → ClassId) (a : Nat → Nat) (t1 : Nat) (h1 : Nat) (t2 : Nat) (h2 : Nat) (t3 : Nat) (h3 : Nat) (k : Int32) (p1 : Nat) (p2 : Nat) (p3 : Nat) (q1 : (offW a g)[p1]? = some (t1, .inr (11, [.ref h1, .int 0]))) (q2 : (offW a g)[p2]? = some (t2, .inr (11, [.ref h2, .int 0]))) (q3 : (offW a g)[p3]? = some (t3, .inr (11, [.ref h3, .int 0]))) (sz : Nat) : Met l yX11_join wsX11_join ({ frames := 2, cells := 0, slots := 0, locals := 36 }) (va_Pc [.ref (a 0), .ref t1, .ref t2, .ref t3, .int k] (PG (dC, dI) g (offW a g) sz)) (va_Qi (fun (r : Int32) (_ : Unit) => r = 1) (fun (_ : Unit) t => va_P (dC, dI) vwCl (offW a g) t.heap) (va_A (offW a g) sz)) 0 0 (va_A (offW a g) sz) := by
  refine Met.ofW (cc := cX11_join) (maxL := 5) (ret := (some .boolean)) (by decide) rfl ?_
  intro p e s m args below meth c s₁ B hml hv
  obtain ⟨rfl, hsz, hP, hK, hD0, hG⟩ := hv
  have hx := B.exec
  have hb := B.bytes
  have hr := B.returns
  have hts := atoms_spec (ws := wsX11_join) B.pre
  have hown : s.vm.findClass RX11 = some m.cls := findClass_of_methodNamed B.named
  have hlocks := B.notSynchronized
  subst hsz
  have hD := hD0.self (sz := s.heap.size)
  generalize hAe : va_A (offW a g) s.heap.size = A at hD hG ⊢
  have hA : ∀ q : Nat, s.heap.size ≤ q → A q := fun q h => by rw [← hAe]; exact Or.inr h
  have hS : va_S A s.heap s.heap [] := va_S.rf
  have hl := lv_entry ([.ref (a 0), .ref t1, .ref t2, .ref t3, .int k]) (n := 5) (Nat.le_of_ble_eq_true rfl)
  rw [lg_entry_eq]
  generalize (lg_sl ([.ref (a 0), .ref t1, .ref t2, .ref t3, .int k]) ++ List.replicate (5 - (lg_sl ([.ref (a 0), .ref t1, .ref t2, .ref t3, .int k])).length) Slot.unset).toArray = ls at hl ⊢
  have hl : lv_has ls 5 [(0, .ref (a 0)), (1, .ref t1), (2, .ref t2), (3, .ref t3), (4, .int k)] := hl
  have hf10 := hts (Cond.fieldLink RX11 10 "RunmergeOffice" "book" "LRunmergeOffice$Book;") (by decide +kernel)
  have hiX11 : ∀ w ∈ u_ws RX11 TX11 13, w ∈ wsX11_join := by decide +kernel
  have hf26 := hts (Cond.fieldLink RX11 26 "RunmergeOffice" "joined" "LRunmergeOffice$Tape;") (by decide +kernel)
  have hiX9 : ∀ w ∈ u_ws RX9 TX9 2, w ∈ wsX11_join := by decide +kernel
  refine lv_aload_n hx hb dX11_join_0 rfl (lv_at hl 1 rfl) ?_
  refine lv_aload_n hx hb dX11_join_1 rfl (lv_at hl 0 rfl) ?_
  refine va_get (D := (dC, dI)) (ci := 13) (v := .ref (a 1)) (C := RX11) (T := TX11) (N := 13) hx hb hts hiX11 hown hK hP 0 (o_0 a g) rfl 0 (by decide) hf10 (fun _ h9 => h9) rfl dX11_join_2 ?_
  refine lv_iconst (v := 0) hx hb dX11_join_5 (by decide) ?_
  refine va_calli (va_runV (As := [.ref (a 1), .int 0]) (rest := []) ⟨hx, hb, hml, hown, hts⟩ (c_X9_isInOrder l dC dI g (offW a g) t1 h1 (a 1) 0 p1 q1  s.heap.size) (cwV 2 hts gX11_join_X9_isInOrder rfl rfl rfl (by decide +kernel) ⟨Nat.le_of_ble_eq_true rfl, Nat.le_of_ble_eq_true rfl⟩) ⟨PG_blind, va_recv hK hP (ci := 11) (q0 := p1) rfl q1, PG_call hK hG hS hP hD (A_all hD hA hS.1)⟩ rfl rfl hl.1 rfl (lv_room (Nat.le_of_ble_eq_true rfl)) dX11_join_6 ⟨Nat.le_of_ble_eq_true rfl, Nat.le_of_ble_eq_true rfl⟩) hS (fun q _ h => (A_all hD hA hS.1) q h) (A_all hD hA hS.1) (fun r_1 u_1 t_1 H_1 L_1 ht_1 hvm_1 hw_1 hB_1 hz_1 hk_1 hS => ?_)
  replace hB_1 := (show va_P (dC, dI) vwCl (offW a g) t_1.heap from hB_1)
  rw [ht_1] at hB_1
  have hP := hB_1
  obtain rfl : r_1 = 1 := hw_1
  refine lv_if_eq (tgt := 24) hx hb dX11_join_9 (by decide) (fun c_2 => absurd c_2 (by decide)) (fun c_2 => ?_)
  refine lv_aload_n hx hb dX11_join_12 rfl (lv_at hl 2 rfl) ?_
  refine lv_aload_n hx hb dX11_join_13 rfl (lv_at hl 0 rfl) ?_
  refine va_get (D := (dC, dI)) (ci := 13) (v := .ref (a 1)) (C := RX11) (T := TX11) (N := 13) hx hb hts hiX11 hown hK hP 0 (o_0 a g) rfl 0 (by decide) hf10 (fun _ h9 => h9) rfl dX11_join_14 ?_
  refine lv_iconst (v := 0) hx hb dX11_join_17 (by decide) ?_
  refine va_calli (va_runV (As := [.ref (a 1), .int 0]) (rest := []) ⟨hx, hb, hml, hown, hts⟩ (c_X9_isInOrder l dC dI g (offW a g) t2 h2 (a 1) 0 p2 q2  H_1.size) (cwV 2 hts gX11_join_X9_isInOrder rfl rfl rfl (by decide +kernel) ⟨Nat.le_of_ble_eq_true rfl, Nat.le_of_ble_eq_true rfl⟩) ⟨PG_blind, va_recv hK hP (ci := 11) (q0 := p2) rfl q2, PG_call hK hG hS hP hD (A_all hD hA hS.1)⟩ rfl rfl hl.1 rfl (lv_room (Nat.le_of_ble_eq_true rfl)) dX11_join_18 ⟨Nat.le_of_ble_eq_true rfl, Nat.le_of_ble_eq_true rfl⟩) hS (fun q _ h => (A_all hD hA hS.1) q h) (A_all hD hA hS.1) (fun r_3 u_3 t_3 H_3 L_3 ht_3 hvm_3 hw_3 hB_3 hz_3 hk_3 hS => ?_)
  replace hB_3 := (show va_P (dC, dI) vwCl (offW a g) t_3.heap from hB_3)
  rw [ht_3] at hB_3
  have hP := hB_3
  obtain rfl : r_3 = 1 := hw_3
  refine lv_if_ne (tgt := 26) hx hb dX11_join_21 (by decide) (fun c_4 => ?_) (fun c_4 => absurd c_4 (by decide))
  refine lv_iload hx hb dX11_join_26 (lv_at hl 4 rfl) ?_
  refine lv_if_ne (tgt := 47) hx hb dX11_join_28 (by decide) (fun c_5 => ?_) (fun c_5 => ?_)
  · refine lv_aload_n hx hb dX11_join_47 rfl (lv_at hl 0 rfl) ?_
    refine va_get (D := (dC, dI)) (ci := 13) (v := .ref (a 6)) (C := RX11) (T := TX11) (N := 13) hx hb hts hiX11 hown hK hP 0 (o_0 a g) rfl 3 (by decide) hf26 (fun _ h9 => h9) rfl dX11_join_48 ?_
    refine va_callv (va_runV (As := []) (rest := []) ⟨hx, hb, hml, hown, hts⟩ (c_X9_empty l dC dI g (offW a g) (a 6) (a 7) 6 (o_6 a g)  H_3.size) (cwV 0 hts gX11_join_X9_empty rfl rfl rfl (by decide +kernel) ⟨Nat.le_of_ble_eq_true rfl, Nat.le_of_ble_eq_true rfl⟩) ⟨PG_blind, va_recv hK hP (ci := 11) (q0 := 6) rfl (o_6 a g), PG_call hK hG hS hP hD (A_all hD hA hS.1)⟩ rfl rfl hl.1 rfl (lv_room (Nat.le_of_ble_eq_true rfl)) dX11_join_51 ⟨Nat.le_of_ble_eq_true rfl, Nat.le_of_ble_eq_true rfl⟩) hS (fun q _ h => (A_all hD hA hS.1) q h) (A_all hD hA hS.1) (fun u_6 t_6 H_6 L_6 ht_6 hvm_6 hw_6 hB_6 hz_6 hk_6 hS => ?_)
    replace hB_6 := (show va_P (dC, dI) vwCl (offW a g) t_6.heap from hB_6)
    rw [ht_6] at hB_6
    have hP := hB_6
    refine lv_iload hx hb dX11_join_54 (lv_at hl 4 rfl) ?_
    refine lv_if_ne (tgt := 75) hx hb dX11_join_56 (by decide) (fun c_7 => ?_) (fun c_7 => absurd c_7 (c_5))
    refine lv_aload_n hx hb dX11_join_75 rfl (lv_at hl 0 rfl) ?_
    refine va_get (D := (dC, dI)) (ci := 13) (v := .ref (a 6)) (C := RX11) (T := TX11) (N := 13) hx hb hts hiX11 hown hK hP 0 (o_0 a g) rfl 3 (by decide) hf26 (fun _ h9 => h9) rfl dX11_join_76 ?_
    refine lv_aload_n hx hb dX11_join_79 rfl (lv_at hl 0 rfl) ?_
    refine va_get (D := (dC, dI)) (ci := 13) (v := .ref (a 1)) (C := RX11) (T := TX11) (N := 13) hx hb hts hiX11 hown hK hP 0 (o_0 a g) rfl 0 (by decide) hf10 (fun _ h9 => h9) rfl dX11_join_80 ?_
    refine lv_aload_n hx hb dX11_join_83 rfl (lv_at hl 1 rfl) ?_
    refine lv_aload_n hx hb dX11_join_84 rfl (lv_at hl 2 rfl) ?_
    refine lv_iload hx hb dX11_join_85 (lv_at hl 4 rfl) ?_
    refine lv_iconst (v := 1) hx hb dX11_join_87 (by decide) ?_
    refine lv_icmp_ne (tgt := 95) hx hb dX11_join_88 (by decide) (fun c_8 => ?_) (fun c_8 => ?_)
    · refine lv_iconst (v := 0) hx hb dX11_join_95 (by decide) ?_
      refine va_callv (va_runV (As := [.ref (a 1), .ref t1, .ref t2, .int 0]) (rest := []) ⟨hx, hb, hml, hown, hts⟩ (c_X9_pick l dC dI g (offW a g) (a 6) (a 1) t1 h1 t2 0 p1 q1  H_6.size) (cwV 4 hts gX11_join_X9_pick rfl rfl rfl (by decide +kernel) ⟨Nat.le_of_ble_eq_true rfl, Nat.le_of_ble_eq_true rfl⟩) ⟨PG_blind, va_recv hK hP (ci := 11) (q0 := 6) rfl (o_6 a g), PG_call hK hG hS hP hD (A_all hD hA hS.1)⟩ rfl rfl hl.1 rfl (lv_room (Nat.le_of_ble_eq_true rfl)) dX11_join_96 ⟨Nat.le_of_ble_eq_true rfl, Nat.le_of_ble_eq_true rfl⟩) hS (fun q _ h => (A_all hD hA hS.1) q h) (A_all hD hA hS.1) (fun u_9 t_9 H_9 L_9 ht_9 hvm_9 hw_9 hB_9 hz_9 hk_9 hS => ?_)
      replace hB_9 := (show va_P (dC, dI) vwCl (offW a g) t_9.heap from hB_9)
      rw [ht_9] at hB_9
      have hP := hB_9
      refine lv_aload_n hx hb dX11_join_99 rfl (lv_at hl 3 rfl) ?_
      refine lv_aload_n hx hb dX11_join_100 rfl (lv_at hl 0 rfl) ?_
      refine va_get (D := (dC, dI)) (ci := 13) (v := .ref (a 6)) (C := RX11) (T := TX11) (N := 13) hx hb hts hiX11 hown hK hP 0 (o_0 a g) rfl 3 (by decide) hf26 (fun _ h9 => h9) rfl dX11_join_101 ?_
      refine va_callv (va_runV (As := [.ref (a 6)]) (rest := []) ⟨hx, hb, hml, hown, hts⟩ (c_X9_takeOver l dC dI g (offW a g) t3 h3 (a 6) (a 7) p3 q3 6 (o_6 a g)  H_9.size) (cwV 1 hts gX11_join_X9_takeOver rfl rfl rfl (by decide +kernel) ⟨Nat.le_of_ble_eq_true rfl, Nat.le_of_ble_eq_true rfl⟩) ⟨PG_blind, va_recv hK hP (ci := 11) (q0 := p3) rfl q3, PG_call hK hG hS hP hD (A_all hD hA hS.1)⟩ rfl rfl hl.1 rfl (lv_room (Nat.le_of_ble_eq_true rfl)) dX11_join_104 ⟨Nat.le_of_ble_eq_true rfl, Nat.le_of_ble_eq_true rfl⟩) hS (fun q _ h => (A_all hD hA hS.1) q h) (A_all hD hA hS.1) (fun u_10 t_10 H_10 L_10 ht_10 hvm_10 hw_10 hB_10 hz_10 hk_10 hS => ?_)
      replace hB_10 := (show va_P (dC, dI) vwCl (offW a g) t_10.heap from hB_10)
      rw [ht_10] at hB_10
      have hP := hB_10
      refine lv_iconst (v := 1) hx hb dX11_join_107 (by decide) ?_
      exact W.zret (v := 1) hx hb hr rfl (fun t ht hW => ⟨⟨1, (), rfl, rfl, P_at ht hP⟩, hS.F ht⟩) hS.2.2 dX11_join_108
    · refine lv_iconst (v := 1) hx hb dX11_join_91 (by decide) ?_
      refine lv_goto (tgt := 96) hx hb dX11_join_92 (by decide) ?_
      refine va_callv (va_runV (As := [.ref (a 1), .ref t1, .ref t2, .int 1]) (rest := []) ⟨hx, hb, hml, hown, hts⟩ (c_X9_pick l dC dI g (offW a g) (a 6) (a 1) t1 h1 t2 1 p1 q1  H_6.size) (cwV 4 hts gX11_join_X9_pick rfl rfl rfl (by decide +kernel) ⟨Nat.le_of_ble_eq_true rfl, Nat.le_of_ble_eq_true rfl⟩) ⟨PG_blind, va_recv hK hP (ci := 11) (q0 := 6) rfl (o_6 a g), PG_call hK hG hS hP hD (A_all hD hA hS.1)⟩ rfl rfl hl.1 rfl (lv_room (Nat.le_of_ble_eq_true rfl)) dX11_join_96 ⟨Nat.le_of_ble_eq_true rfl, Nat.le_of_ble_eq_true rfl⟩) hS (fun q _ h => (A_all hD hA hS.1) q h) (A_all hD hA hS.1) (fun u_11 t_11 H_11 L_11 ht_11 hvm_11 hw_11 hB_11 hz_11 hk_11 hS => ?_)
      replace hB_11 := (show va_P (dC, dI) vwCl (offW a g) t_11.heap from hB_11)
      rw [ht_11] at hB_11
      have hP := hB_11
      refine lv_aload_n hx hb dX11_join_99 rfl (lv_at hl 3 rfl) ?_
      refine lv_aload_n hx hb dX11_join_100 rfl (lv_at hl 0 rfl) ?_
      refine va_get (D := (dC, dI)) (ci := 13) (v := .ref (a 6)) (C := RX11) (T := TX11) (N := 13) hx hb hts hiX11 hown hK hP 0 (o_0 a g) rfl 3 (by decide) hf26 (fun _ h9 => h9) rfl dX11_join_101 ?_
      refine va_callv (va_runV (As := [.ref (a 6)]) (rest := []) ⟨hx, hb, hml, hown, hts⟩ (c_X9_takeOver l dC dI g (offW a g) t3 h3 (a 6) (a 7) p3 q3 6 (o_6 a g)  H_11.size) (cwV 1 hts gX11_join_X9_takeOver rfl rfl rfl (by decide +kernel) ⟨Nat.le_of_ble_eq_true rfl, Nat.le_of_ble_eq_true rfl⟩) ⟨PG_blind, va_recv hK hP (ci := 11) (q0 := p3) rfl q3, PG_call hK hG hS hP hD (A_all hD hA hS.1)⟩ rfl rfl hl.1 rfl (lv_room (Nat.le_of_ble_eq_true rfl)) dX11_join_104 ⟨Nat.le_of_ble_eq_true rfl, Nat.le_of_ble_eq_true rfl⟩) hS (fun q _ h => (A_all hD hA hS.1) q h) (A_all hD hA hS.1) (fun u_12 t_12 H_12 L_12 ht_12 hvm_12 hw_12 hB_12 hz_12 hk_12 hS => ?_)
      replace hB_12 := (show va_P (dC, dI) vwCl (offW a g) t_12.heap from hB_12)
      rw [ht_12] at hB_12
      have hP := hB_12
      refine lv_iconst (v := 1) hx hb dX11_join_107 (by decide) ?_
      exact W.zret (v := 1) hx hb hr rfl (fun t ht hW => ⟨⟨1, (), rfl, rfl, P_at ht hP⟩, hS.F ht⟩) hS.2.2 dX11_join_108
  · refine lv_aload_n hx hb dX11_join_31 rfl (lv_at hl 1 rfl) ?_
    refine va_getN (D := (dC, dI)) (ci := 11) (v := .int 0) (C := RX9) (T := TX9) (N := 2) hx hb hts hiX9 hown hK hP p1 q1 rfl 1 (by decide) (nf_3 hG) (fun _ h9 => h9) rfl dX11_join_32 ?_
    refine lv_aload_n hx hb dX11_join_35 rfl (lv_at hl 2 rfl) ?_
    refine va_getN (D := (dC, dI)) (ci := 11) (v := .int 0) (C := RX9) (T := TX9) (N := 2) hx hb hts hiX9 hown hK hP p2 q2 rfl 1 (by decide) (nf_3 hG) (fun _ h9 => h9) rfl dX11_join_36 ?_
    refine lv_iadd hx hb dX11_join_39 ?_
    refine lv_topi (fun x_13 ex_13 => ?_)
    obtain rfl : x_13 = 0 := ex_13.trans (by decide)
    refine lv_bipush (v := 100) hx hb dX11_join_40 (by decide) ?_
    refine lv_icmp_le (tgt := 47) hx hb dX11_join_42 (by decide) (fun c_14 => ?_) (fun c_14 => absurd (by decide) c_14)
    refine lv_aload_n hx hb dX11_join_47 rfl (lv_at hl 0 rfl) ?_
    refine va_get (D := (dC, dI)) (ci := 13) (v := .ref (a 6)) (C := RX11) (T := TX11) (N := 13) hx hb hts hiX11 hown hK hP 0 (o_0 a g) rfl 3 (by decide) hf26 (fun _ h9 => h9) rfl dX11_join_48 ?_
    refine va_callv (va_runV (As := []) (rest := []) ⟨hx, hb, hml, hown, hts⟩ (c_X9_empty l dC dI g (offW a g) (a 6) (a 7) 6 (o_6 a g)  H_3.size) (cwV 0 hts gX11_join_X9_empty rfl rfl rfl (by decide +kernel) ⟨Nat.le_of_ble_eq_true rfl, Nat.le_of_ble_eq_true rfl⟩) ⟨PG_blind, va_recv hK hP (ci := 11) (q0 := 6) rfl (o_6 a g), PG_call hK hG hS hP hD (A_all hD hA hS.1)⟩ rfl rfl hl.1 rfl (lv_room (Nat.le_of_ble_eq_true rfl)) dX11_join_51 ⟨Nat.le_of_ble_eq_true rfl, Nat.le_of_ble_eq_true rfl⟩) hS (fun q _ h => (A_all hD hA hS.1) q h) (A_all hD hA hS.1) (fun u_15 t_15 H_15 L_15 ht_15 hvm_15 hw_15 hB_15 hz_15 hk_15 hS => ?_)
    replace hB_15 := (show va_P (dC, dI) vwCl (offW a g) t_15.heap from hB_15)
    rw [ht_15] at hB_15
    have hP := hB_15
    refine lv_iload hx hb dX11_join_54 (lv_at hl 4 rfl) ?_
    refine lv_if_ne (tgt := 75) hx hb dX11_join_56 (by decide) (fun c_16 => absurd (c_5) c_16) (fun c_16 => ?_)
    refine lv_aload_n hx hb dX11_join_59 rfl (lv_at hl 0 rfl) ?_
    refine va_get (D := (dC, dI)) (ci := 13) (v := .ref (a 6)) (C := RX11) (T := TX11) (N := 13) hx hb hts hiX11 hown hK hP 0 (o_0 a g) rfl 3 (by decide) hf26 (fun _ h9 => h9) rfl dX11_join_60 ?_
    refine lv_aload_n hx hb dX11_join_63 rfl (lv_at hl 0 rfl) ?_
    refine va_get (D := (dC, dI)) (ci := 13) (v := .ref (a 1)) (C := RX11) (T := TX11) (N := 13) hx hb hts hiX11 hown hK hP 0 (o_0 a g) rfl 0 (by decide) hf10 (fun _ h9 => h9) rfl dX11_join_64 ?_
    refine lv_aload_n hx hb dX11_join_67 rfl (lv_at hl 1 rfl) ?_
    refine lv_aload_n hx hb dX11_join_68 rfl (lv_at hl 2 rfl) ?_
    refine va_callv (va_runV (As := [.ref (a 1), .ref t1, .ref t2]) (rest := []) ⟨hx, hb, hml, hown, hts⟩ (c_X9_unite l dC dI g (offW a g) (a 6) (a 1) t1 h1 t2 h2 p1 q1 p2 q2  H_15.size) (cwV 3 hts gX11_join_X9_unite rfl rfl rfl (by decide +kernel) ⟨Nat.le_of_ble_eq_true rfl, Nat.le_of_ble_eq_true rfl⟩) ⟨PG_blind, va_recv hK hP (ci := 11) (q0 := 6) rfl (o_6 a g), PG_call hK hG hS hP hD (A_all hD hA hS.1)⟩ rfl rfl hl.1 rfl (lv_room (Nat.le_of_ble_eq_true rfl)) dX11_join_69 ⟨Nat.le_of_ble_eq_true rfl, Nat.le_of_ble_eq_true rfl⟩) hS (fun q _ h => (A_all hD hA hS.1) q h) (A_all hD hA hS.1) (fun u_17 t_17 H_17 L_17 ht_17 hvm_17 hw_17 hB_17 hz_17 hk_17 hS => ?_)
    replace hB_17 := (show va_P (dC, dI) vwCl (offW a g) t_17.heap from hB_17)
    rw [ht_17] at hB_17
    have hP := hB_17
    refine lv_goto (tgt := 99) hx hb dX11_join_72 (by decide) ?_
    refine lv_aload_n hx hb dX11_join_99 rfl (lv_at hl 3 rfl) ?_
    refine lv_aload_n hx hb dX11_join_100 rfl (lv_at hl 0 rfl) ?_
    refine va_get (D := (dC, dI)) (ci := 13) (v := .ref (a 6)) (C := RX11) (T := TX11) (N := 13) hx hb hts hiX11 hown hK hP 0 (o_0 a g) rfl 3 (by decide) hf26 (fun _ h9 => h9) rfl dX11_join_101 ?_
    refine va_callv (va_runV (As := [.ref (a 6)]) (rest := []) ⟨hx, hb, hml, hown, hts⟩ (c_X9_takeOver l dC dI g (offW a g) t3 h3 (a 6) (a 7) p3 q3 6 (o_6 a g)  H_17.size) (cwV 1 hts gX11_join_X9_takeOver rfl rfl rfl (by decide +kernel) ⟨Nat.le_of_ble_eq_true rfl, Nat.le_of_ble_eq_true rfl⟩) ⟨PG_blind, va_recv hK hP (ci := 11) (q0 := p3) rfl q3, PG_call hK hG hS hP hD (A_all hD hA hS.1)⟩ rfl rfl hl.1 rfl (lv_room (Nat.le_of_ble_eq_true rfl)) dX11_join_104 ⟨Nat.le_of_ble_eq_true rfl, Nat.le_of_ble_eq_true rfl⟩) hS (fun q _ h => (A_all hD hA hS.1) q h) (A_all hD hA hS.1) (fun u_18 t_18 H_18 L_18 ht_18 hvm_18 hw_18 hB_18 hz_18 hk_18 hS => ?_)
    replace hB_18 := (show va_P (dC, dI) vwCl (offW a g) t_18.heap from hB_18)
    rw [ht_18] at hB_18
    have hP := hB_18
    refine lv_iconst (v := 1) hx hb dX11_join_107 (by decide) ?_
    exact W.zret (v := 1) hx hb hr rfl (fun t ht hW => ⟨⟨1, (), rfl, rfl, P_at ht hP⟩, hS.F ht⟩) hS.2.2 dX11_join_108
set_option maxHeartbeats 4000000 in
set_option maxRecDepth 100000 in
theorem c_X11_combine (l : Launch) (hlf : l.stackTraces = false) (dC : Nat → ClassId) (dI : Nat → Nat → Nat) (g : Nat → ClassId) (a : Nat → Nat) (x : Int32) (y : Int32) (z : Int32) (k : Int32) (sz : Nat) : vx_Met l yX11_combine wsX11_combine ({ frames := 7, cells := 8, slots := 48, locals := 105 }) (va_Pc [.ref (a 0), .int x, .int y, .int z, .int k] (PG (dC, dI) g (offW a g) sz)) (va_Qi (fun (r : Int32) (_ : Unit) => (TOKb x && TOKb y && TOKb z) = true ∧ (rngb k 0 2) = true ∧ r = 0) (fun (_ : Unit) (_ : State) => True) (va_A (offW a g) sz)) (vx_X (fun _ : Unit => True) (fun E _ _ => (E = "java/lang/IndexOutOfBoundsException" ∧ (TOKb x && TOKb y && TOKb z) = false) ∨ (E = "java/lang/IllegalArgumentException" ∧ (TOKb x && TOKb y && TOKb z) = true ∧ (rngb k 0 2) = false)) (va_A (offW a g) sz)) 8 48 (va_A (offW a g) sz) := by
  refine vx_ofW (cc := cX11_combine) (maxL := 8) (ret := (some .int)) (by decide) rfl ?_
  intro p e s m args below meth c s₁ B hml hno hv
  obtain ⟨rfl, hsz, hP, hK, hD0, hG⟩ := hv
  have hx := B.exec
  have hb := B.bytes
  have hr := B.returns
  have hts := atoms_spec (ws := wsX11_combine) B.pre
  have hown : s.vm.findClass RX11 = some m.cls := findClass_of_methodNamed B.named
  have hlocks := B.notSynchronized
  subst hsz
  have hD := hD0.self (sz := s.heap.size)
  generalize hAe : va_A (offW a g) s.heap.size = A at hD hG ⊢
  have hA : ∀ q : Nat, s.heap.size ≤ q → A q := fun q h => by rw [← hAe]; exact Or.inr h
  have hS : va_S A s.heap s.heap [] := va_S.rf
  have hl := lv_entry ([.ref (a 0), .int x, .int y, .int z, .int k]) (n := 8) (Nat.le_of_ble_eq_true rfl)
  rw [lg_entry_eq]
  generalize (lg_sl ([.ref (a 0), .int x, .int y, .int z, .int k]) ++ List.replicate (8 - (lg_sl ([.ref (a 0), .int x, .int y, .int z, .int k])).length) Slot.unset).toArray = ls at hl ⊢
  have hl : lv_has ls 8 [(0, .ref (a 0)), (1, .int x), (2, .int y), (3, .int z), (4, .int k)] := hl
  have hiX9 : ∀ w ∈ u_ws RX9 TX9 2, w ∈ wsX11_combine := by decide +kernel
  refine lv_aload_n hx hb dX11_combine_0 rfl (lv_at hl 0 rfl) ?_
  refine lv_iload_n hx hb dX11_combine_1 rfl (lv_at hl 1 rfl) ?_
  refine vx_callq (vx_runV (As := [.int x]) (rest := []) ⟨hx, hb, hml, hown, hts⟩ (c_X11_tapeOf l hlf dC dI g (offW a g) (a 0) (a 1) (a 4) (a 5) (a 6) (a 8) (a 9) (a 12) (a 16) (a 22) (a 43) (a 64) (a 69) 0 (va_up (va_up (va_up (va_up (va_up (va_up (va_up (va_up (fun _ => none) 0 (some (a 108))) 1 (some (a 109))) 2 (some (a 110))) 3 (some (a 111))) 4 (some (a 112))) 5 (some (a 113))) 6 (some (a 114))) 7 (some (a 115))) (fun j => a (108 + j)) x 0 (o_0 a g) 4 (o_4 a g) (tp_at a) s.heap.size) (cwV 1 hts gX11_combine_X11_tapeOf rfl rfl rfl (by decide +kernel) ⟨Nat.le_of_ble_eq_true rfl, Nat.le_of_ble_eq_true rfl⟩) ⟨PG_blind, va_recv hK hP (ci := 13) (q0 := 0) rfl (o_0 a g), PG_call hK hG hS hP hD (A_all hD hA hS.1)⟩ rfl rfl hl.1 rfl (lv_room (Nat.le_of_ble_eq_true rfl)) dX11_combine_2 ⟨Nat.le_of_ble_eq_true rfl, Nat.le_of_ble_eq_true rfl⟩) hS (fun q _ h => (A_all hD hA hS.1) q h) (A_all hD hA hS.1) (fun q _ h => (A_all hD hA hS.1) q h) (fun E ce q9 u t H1 locs1 ht hvm hp9 hB9 hz hk hS9 hce hcv hcl => ?_) (fun r_1 u_1 t_1 H_1 L_1 ht_1 hvm_1 hw_1 hB_1 hz_1 hk_1 hS => ?_)
  · exact vx_out (fun x hx => (hno x hx).elim) hlocks hce hcv hcl (fun t ht hW => ⟨(), trivial, (by have h9 : E = "java/lang/IndexOutOfBoundsException" ∧ TOKb x = false := hB9; exact (Or.inl ⟨h9.1, by simp [h9.2]⟩)), hS9.F ht⟩) hS9.2.2 (Nat.le_of_ble_eq_true rfl) (Nat.le_of_ble_eq_true rfl)
  replace hB_1 := (show va_P (dC, dI) vwCl (offW a g) t_1.heap from hB_1)
  rw [ht_1] at hB_1
  have hP := hB_1
  obtain ⟨j_1, hj_1, ex_1, rfl⟩ := hw_1
  have w_1 := o_tape a g j_1 hj_1
  refine lv_astore (lv' := [(5, .ref (a (108 + j_1))), (0, .ref (a 0)), (1, .int x), (2, .int y), (3, .int z), (4, .int k)]) hx hb dX11_combine_5 hl (by decide) rfl (fun ls hl => ?_)
  refine lv_aload_n hx hb dX11_combine_7 rfl (lv_at hl 1 rfl) ?_
  refine lv_iload_n hx hb dX11_combine_8 rfl (lv_at hl 3 rfl) ?_
  refine vx_callq (vx_runV (As := [.int y]) (rest := []) ⟨hx, hb, hml, hown, hts⟩ (c_X11_tapeOf l hlf dC dI g (offW a g) (a 0) (a 1) (a 4) (a 5) (a 6) (a 8) (a 9) (a 12) (a 16) (a 22) (a 43) (a 64) (a 69) 0 (va_up (va_up (va_up (va_up (va_up (va_up (va_up (va_up (fun _ => none) 0 (some (a 108))) 1 (some (a 109))) 2 (some (a 110))) 3 (some (a 111))) 4 (some (a 112))) 5 (some (a 113))) 6 (some (a 114))) 7 (some (a 115))) (fun j => a (108 + j)) y 0 (o_0 a g) 4 (o_4 a g) (tp_at a) H_1.size) (cwV 1 hts gX11_combine_X11_tapeOf rfl rfl rfl (by decide +kernel) ⟨Nat.le_of_ble_eq_true rfl, Nat.le_of_ble_eq_true rfl⟩) ⟨PG_blind, va_recv hK hP (ci := 13) (q0 := 0) rfl (o_0 a g), PG_call hK hG hS hP hD (A_all hD hA hS.1)⟩ rfl rfl hl.1 rfl (lv_room (Nat.le_of_ble_eq_true rfl)) dX11_combine_9 ⟨Nat.le_of_ble_eq_true rfl, Nat.le_of_ble_eq_true rfl⟩) hS (fun q _ h => (A_all hD hA hS.1) q h) (A_all hD hA hS.1) (fun q _ h => (A_all hD hA hS.1) q h) (fun E ce q9 u t H1 locs1 ht hvm hp9 hB9 hz hk hS9 hce hcv hcl => ?_) (fun r_2 u_2 t_2 H_2 L_2 ht_2 hvm_2 hw_2 hB_2 hz_2 hk_2 hS => ?_)
  · exact vx_out (fun x hx => (hno x hx).elim) hlocks hce hcv hcl (fun t ht hW => ⟨(), trivial, (by have h9 : E = "java/lang/IndexOutOfBoundsException" ∧ TOKb y = false := hB9; exact (Or.inl ⟨h9.1, by simp [h9.2]⟩)), hS9.F ht⟩) hS9.2.2 (Nat.le_of_ble_eq_true rfl) (Nat.le_of_ble_eq_true rfl)
  replace hB_2 := (show va_P (dC, dI) vwCl (offW a g) t_2.heap from hB_2)
  rw [ht_2] at hB_2
  have hP := hB_2
  obtain ⟨j_2, hj_2, ex_2, rfl⟩ := hw_2
  have w_2 := o_tape a g j_2 hj_2
  refine lv_astore (lv' := [(6, .ref (a (108 + j_2))), (5, .ref (a (108 + j_1))), (0, .ref (a 0)), (1, .int x), (2, .int y), (3, .int z), (4, .int k)]) hx hb dX11_combine_12 hl (by decide) rfl (fun ls hl => ?_)
  refine lv_aload_n hx hb dX11_combine_14 rfl (lv_at hl 2 rfl) ?_
  refine lv_iload_n hx hb dX11_combine_15 rfl (lv_at hl 5 rfl) ?_
  refine vx_callq (vx_runV (As := [.int z]) (rest := []) ⟨hx, hb, hml, hown, hts⟩ (c_X11_tapeOf l hlf dC dI g (offW a g) (a 0) (a 1) (a 4) (a 5) (a 6) (a 8) (a 9) (a 12) (a 16) (a 22) (a 43) (a 64) (a 69) 0 (va_up (va_up (va_up (va_up (va_up (va_up (va_up (va_up (fun _ => none) 0 (some (a 108))) 1 (some (a 109))) 2 (some (a 110))) 3 (some (a 111))) 4 (some (a 112))) 5 (some (a 113))) 6 (some (a 114))) 7 (some (a 115))) (fun j => a (108 + j)) z 0 (o_0 a g) 4 (o_4 a g) (tp_at a) H_2.size) (cwV 1 hts gX11_combine_X11_tapeOf rfl rfl rfl (by decide +kernel) ⟨Nat.le_of_ble_eq_true rfl, Nat.le_of_ble_eq_true rfl⟩) ⟨PG_blind, va_recv hK hP (ci := 13) (q0 := 0) rfl (o_0 a g), PG_call hK hG hS hP hD (A_all hD hA hS.1)⟩ rfl rfl hl.1 rfl (lv_room (Nat.le_of_ble_eq_true rfl)) dX11_combine_16 ⟨Nat.le_of_ble_eq_true rfl, Nat.le_of_ble_eq_true rfl⟩) hS (fun q _ h => (A_all hD hA hS.1) q h) (A_all hD hA hS.1) (fun q _ h => (A_all hD hA hS.1) q h) (fun E ce q9 u t H1 locs1 ht hvm hp9 hB9 hz hk hS9 hce hcv hcl => ?_) (fun r_3 u_3 t_3 H_3 L_3 ht_3 hvm_3 hw_3 hB_3 hz_3 hk_3 hS => ?_)
  · exact vx_out (fun x hx => (hno x hx).elim) hlocks hce hcv hcl (fun t ht hW => ⟨(), trivial, (by have h9 : E = "java/lang/IndexOutOfBoundsException" ∧ TOKb z = false := hB9; exact (Or.inl ⟨h9.1, by simp [h9.2]⟩)), hS9.F ht⟩) hS9.2.2 (Nat.le_of_ble_eq_true rfl) (Nat.le_of_ble_eq_true rfl)
  replace hB_3 := (show va_P (dC, dI) vwCl (offW a g) t_3.heap from hB_3)
  rw [ht_3] at hB_3
  have hP := hB_3
  obtain ⟨j_3, hj_3, ex_3, rfl⟩ := hw_3
  have w_3 := o_tape a g j_3 hj_3
  refine lv_astore (lv' := [(7, .ref (a (108 + j_3))), (6, .ref (a (108 + j_2))), (5, .ref (a (108 + j_1))), (0, .ref (a 0)), (1, .int x), (2, .int y), (3, .int z), (4, .int k)]) hx hb dX11_combine_19 hl (by decide) rfl (fun ls hl => ?_)
  refine lv_aload_n hx hb dX11_combine_21 rfl (lv_at hl 3 rfl) ?_
  refine lv_iload hx hb dX11_combine_22 (lv_at hl 7 rfl) ?_
  refine lv_iconst (v := 0) hx hb dX11_combine_24 (by decide) ?_
  refine lv_iconst (v := 2) hx hb dX11_combine_25 (by decide) ?_
  refine vx_callv (vx_runV (As := [.int k, .int 0, .int 2]) (rest := []) ⟨hx, hb, hml, hown, hts⟩ (c_X11_demandRange l hlf dC dI g (offW a g) (a 0) k 0 2   H_3.size) (cwV 3 hts gX11_combine_X11_demandRange rfl rfl rfl (by decide +kernel) ⟨Nat.le_of_ble_eq_true rfl, Nat.le_of_ble_eq_true rfl⟩) ⟨PG_blind, va_recv hK hP (ci := 13) (q0 := 0) rfl (o_0 a g), PG_call hK hG hS hP hD (A_all hD hA hS.1)⟩ rfl rfl hl.1 rfl (lv_room (Nat.le_of_ble_eq_true rfl)) dX11_combine_26 ⟨Nat.le_of_ble_eq_true rfl, Nat.le_of_ble_eq_true rfl⟩) hS (fun q _ h => (A_all hD hA hS.1) q h) (A_all hD hA hS.1) (fun q _ h => (A_all hD hA hS.1) q h) (fun E ce q9 u t H1 locs1 ht hvm hp9 hB9 hz hk hS9 hce hcv hcl => ?_) (fun u_4 t_4 H_4 L_4 ht_4 hvm_4 hw_4 hB_4 hz_4 hk_4 hS => ?_)
  · exact vx_out (fun x hx => (hno x hx).elim) hlocks hce hcv hcl (fun t ht hW => ⟨(), trivial, (by have h9 : E = "java/lang/IllegalArgumentException" ∧ rngb k 0 2 = false := hB9; exact (Or.inr ⟨h9.1, by simp [TOK_j hj_1 ex_1, TOK_j hj_2 ex_2, TOK_j hj_3 ex_3], by simp [h9.2]⟩)), hS9.F ht⟩) hS9.2.2 (Nat.le_of_ble_eq_true rfl) (Nat.le_of_ble_eq_true rfl)
  replace hB_4 := (show va_P (dC, dI) vwCl (offW a g) t_4.heap from hB_4)
  rw [ht_4] at hB_4
  have hP := hB_4
  refine lv_aload_n hx hb dX11_combine_29 rfl (lv_at hl 3 rfl) ?_
  refine lv_aload hx hb dX11_combine_30 (lv_at hl 2 rfl) ?_
  refine lv_aload hx hb dX11_combine_32 (lv_at hl 1 rfl) ?_
  refine lv_aload hx hb dX11_combine_34 (lv_at hl 0 rfl) ?_
  refine lv_iload hx hb dX11_combine_36 (lv_at hl 7 rfl) ?_
  refine va_calli (va_runV (As := [.ref (a (108 + j_1)), .ref (a (108 + j_2)), .ref (a (108 + j_3)), .int k]) (rest := []) ⟨hx, hb, hml, hown, hts⟩ (c_X11_join l dC dI g a (a (108 + j_1)) (a (116 + j_1)) (a (108 + j_2)) (a (116 + j_2)) (a (108 + j_3)) (a (116 + j_3)) k (108 + j_1) (108 + j_2) (108 + j_3) w_1 w_2 w_3 H_4.size) (cwV 4 hts gX11_combine_X11_join rfl rfl rfl (by decide +kernel) ⟨Nat.le_of_ble_eq_true rfl, Nat.le_of_ble_eq_true rfl⟩) ⟨PG_blind, va_recv hK hP (ci := 13) (q0 := 0) rfl (o_0 a g), PG_call hK hG hS hP hD (A_all hD hA hS.1)⟩ rfl rfl hl.1 rfl (lv_room (Nat.le_of_ble_eq_true rfl)) dX11_combine_38 ⟨Nat.le_of_ble_eq_true rfl, Nat.le_of_ble_eq_true rfl⟩) hS (fun q _ h => (A_all hD hA hS.1) q h) (A_all hD hA hS.1) (fun r_5 u_5 t_5 H_5 L_5 ht_5 hvm_5 hw_5 hB_5 hz_5 hk_5 hS => ?_)
  replace hB_5 := (show va_P (dC, dI) vwCl (offW a g) t_5.heap from hB_5)
  rw [ht_5] at hB_5
  have hP := hB_5
  obtain rfl : r_5 = 1 := hw_5
  refine lv_if_ne (tgt := 55) hx hb dX11_combine_41 (by decide) (fun c_6 => ?_) (fun c_6 => absurd c_6 (by decide))
  refine lv_aload hx hb dX11_combine_55 (lv_at hl 0 rfl) ?_
  refine va_getN (D := (dC, dI)) (ci := 11) (v := .int 0) (C := RX9) (T := TX9) (N := 2) hx hb hts hiX9 hown hK hP (108 + j_3) w_3 rfl 1 (by decide) (nf_3 hG) (fun _ h9 => h9) rfl dX11_combine_57 ?_
  refine W.widen (k := 8) (n := 48) (by omega) (by omega) ?_
  refine vx_ret ?_
  exact W.iret (v := 0) hx hb hr (fun t ht hW => ⟨⟨0, (), rfl, ⟨by simp [TOK_j hj_1 ex_1, TOK_j hj_2 ex_2, TOK_j hj_3 ex_3, hw_4], by simp [TOK_j hj_1 ex_1, TOK_j hj_2 ex_2, TOK_j hj_3 ex_3, hw_4], rfl⟩, trivial⟩, hS.F ht⟩) hS.2.2 dX11_combine_60
