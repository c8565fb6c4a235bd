theorem dX13_takes_0 : decode cX13_takes 0 = .ok (.aload_n 0, 1) := by decide +kernel
theorem dX13_takes_1 : decode cX13_takes 1 = .ok (.aload_n 0, 1) := by decide +kernel
theorem dX13_takes_2 : decode cX13_takes 2 = .ok (.getfield 242, 3) := by decide +kernel
theorem dX13_takes_5 : decode cX13_takes 5 = .ok (.putfield 245, 3) := by decide +kernel
theorem dX13_takes_8 : decode cX13_takes 8 = .ok (.aload_n 0, 1) := by decide +kernel
theorem dX13_takes_9 : decode cX13_takes 9 = .ok (.getfield 245, 3) := by decide +kernel
theorem dX13_takes_12 : decode cX13_takes 12 = .ok (.aload_n 0, 1) := by decide +kernel
theorem dX13_takes_13 : decode cX13_takes 13 = .ok (.getfield 218, 3) := by decide +kernel
theorem dX13_takes_16 : decode cX13_takes 16 = .ok (.if_icmp .ge 30, 3) := by decide +kernel
theorem dX13_takes_46 : decode cX13_takes 46 = .ok (.aload_n 0, 1) := by decide +kernel
theorem dX13_takes_47 : decode cX13_takes 47 = .ok (.aload_n 0, 1) := by decide +kernel
theorem dX13_takes_48 : decode cX13_takes 48 = .ok (.getfield 245, 3) := by decide +kernel
theorem dX13_takes_51 : decode cX13_takes 51 = .ok (.putfield 242, 3) := by decide +kernel
theorem dX13_takes_54 : decode cX13_takes 54 = .ok (.aload_n 0, 1) := by decide +kernel
theorem dX13_takes_55 : decode cX13_takes 55 = .ok (.getfield 245, 3) := by decide +kernel
theorem dX13_takes_58 : decode cX13_takes 58 = .ok (.aload_n 0, 1) := by decide +kernel
theorem dX13_takes_59 : decode cX13_takes 59 = .ok (.getfield 218, 3) := by decide +kernel
theorem dX13_takes_62 : decode cX13_takes 62 = .ok (.if_icmp .ge 110, 3) := by decide +kernel
theorem dX13_takes_172 : decode cX13_takes 172 = .ok (.aload_n 0, 1) := by decide +kernel
theorem dX13_takes_173 : decode cX13_takes 173 = .ok (.getfield 245, 3) := by decide +kernel
theorem dX13_takes_176 : decode cX13_takes 176 = .ok (.aload_n 0, 1) := by decide +kernel
theorem dX13_takes_177 : decode cX13_takes 177 = .ok (.getfield 218, 3) := by decide +kernel
theorem dX13_takes_180 : decode cX13_takes 180 = .ok (.if_icmp .ge 13, 3) := by decide +kernel
theorem dX13_takes_193 : decode cX13_takes 193 = .ok (.return_, 1) := by decide +kernel
theorem dX13_reads_0 : decode cX13_reads 0 = .ok (.aload_n 0, 1) := by decide +kernel
theorem dX13_reads_1 : decode cX13_reads 1 = .ok (.iconst 0, 1) := by decide +kernel
theorem dX13_reads_2 : decode cX13_reads 2 = .ok (.putfield 236, 3) := by decide +kernel
theorem dX13_reads_5 : decode cX13_reads 5 = .ok (.aload_n 0, 1) := by decide +kernel
theorem dX13_reads_6 : decode cX13_reads 6 = .ok (.iconst (-1), 1) := by decide +kernel
theorem dX13_reads_7 : decode cX13_reads 7 = .ok (.putfield 239, 3) := by decide +kernel
theorem dX13_reads_10 : decode cX13_reads 10 = .ok (.aload_n 0, 1) := by decide +kernel
theorem dX13_reads_11 : decode cX13_reads 11 = .ok (.iconst 0, 1) := by decide +kernel
theorem dX13_reads_12 : decode cX13_reads 12 = .ok (.putfield 242, 3) := by decide +kernel
theorem dX13_reads_15 : decode cX13_reads 15 = .ok (.iconst 0, 1) := by decide +kernel
theorem dX13_reads_16 : decode cX13_reads 16 = .ok (.istore_n 2, 1) := by decide +kernel
theorem dX13_reads_17 : decode cX13_reads 17 = .ok (.aload_n 0, 1) := by decide +kernel
set_option maxRecDepth 20000 in
theorem ggX13_reads_X13_takes : GoodIn wsX13_reads wsX13_takes := goodIn_r _ [10, 3, 4, 5, 11, 12, 13, 9, 14, 15, 16, 17, 18, 19, 20, 365, 366, 367, 368, 369, 370, 371, 372, 373, 374, 375, 376, 377, 378] (by decide +kernel) (by decide +kernel)
set_option maxRecDepth 20000 in
theorem gX13_reads_X13_takes : GoodIn wsX13_reads (wsV RX13 254 RX13 yX13_takes wsX13_takes) := goodIn_app (goodIn_of _ (by decide +kernel)) ggX13_reads_X13_takes
theorem dX13_reads_18 : decode cX13_reads 18 = .ok (.invokevirtual 254, 3) := by decide +kernel
theorem dX13_reads_21 : decode cX13_reads 21 = .ok (.aload_n 0, 1) := by decide +kernel
theorem dX13_reads_22 : decode cX13_reads 22 = .ok (.getfield 236, 3) := by decide +kernel
theorem dX13_reads_25 : decode cX13_reads 25 = .ok (.ifCond .ne 36, 3) := by decide +kernel
theorem dX13_reads_28 : decode cX13_reads 28 = .ok (.aload_n 0, 1) := by decide +kernel
theorem dX13_reads_29 : decode cX13_reads 29 = .ok (.getfield 245, 3) := by decide +kernel
theorem dX13_reads_32 : decode cX13_reads 32 = .ok (.aload_n 0, 1) := by decide +kernel
theorem dX13_reads_33 : decode cX13_reads 33 = .ok (.getfield 218, 3) := by decide +kernel
theorem dX13_reads_36 : decode cX13_reads 36 = .ok (.if_icmp .ge 25, 3) := by decide +kernel
theorem dX13_reads_61 : decode cX13_reads 61 = .ok (.iload_n 2, 1) := by decide +kernel
theorem dX13_reads_62 : decode cX13_reads 62 = .ok (.ireturn, 1) := by decide +kernel
theorem dX13_tries_0 : decode cX13_tries 0 = .ok (.aload_n 0, 1) := by decide +kernel
theorem dX13_tries_1 : decode cX13_tries 1 = .ok (.iconst 0, 1) := by decide +kernel
theorem ggX13_tries_X13_reads_h : GoodIn wsX13_tries [.code yX13_reads cX13_reads 3 (some .int)] := goodIn_r _ [8] (by decide +kernel) (by decide +kernel)
theorem ggX13_tries_X13_reads_0 : GoodIn wsX13_tries wsX13_reads_r1 := goodIn_r _ [1, 9, 10, 11, 12, 13, 14, 15, 7, 16, 17, 18, 19, 20, 21, 22, 23, 24, 25, 26, 27, 28, 29, 30] (by decide +kernel) (by decide +kernel)
theorem ggX13_tries_X13_reads_1 : GoodIn wsX13_tries wsX13_reads_r2 := goodIn_r _ [31, 32, 33, 34, 35, 36, 37, 38, 39, 40, 41, 42, 43, 44, 45, 46, 47, 48, 49, 50, 51, 52, 53, 54] (by decide +kernel) (by decide +kernel)
theorem ggX13_tries_X13_reads_2 : GoodIn wsX13_tries wsX13_reads_r3 := goodIn_r _ [55, 56, 57, 58, 59, 60, 61, 62, 63, 64, 65, 66, 67, 68, 69, 70, 71, 72, 73, 74, 75, 76, 77, 78] (by decide +kernel) (by decide +kernel)
theorem ggX13_tries_X13_reads_3 : GoodIn wsX13_tries wsX13_reads_r4 := goodIn_r _ [79, 80, 81, 82, 83, 84, 85, 86, 87, 88, 89, 90, 91, 92, 2, 93, 94, 95, 96, 97, 98, 99, 100, 101] (by decide +kernel) (by decide +kernel)
theorem ggX13_tries_X13_reads_4 : GoodIn wsX13_tries wsX13_reads_r5 := goodIn_r _ [102, 103, 104, 105, 106, 107, 108, 109, 110, 111, 112, 113, 114, 115, 116, 117, 118, 119, 120, 121, 122, 123, 124, 125] (by decide +kernel) (by decide +kernel)
theorem ggX13_tries_X13_reads_5 : GoodIn wsX13_tries wsX13_reads_r6 := goodIn_r _ [126, 127, 128, 129, 130, 131, 132, 133, 134, 135, 136, 137, 138, 139, 140, 141, 142, 143, 144, 145, 146, 147, 148, 149] (by decide +kernel) (by decide +kernel)
theorem ggX13_tries_X13_reads_6 : GoodIn wsX13_tries wsX13_reads_r7 := goodIn_r _ [150, 151, 152, 153, 154, 155, 156, 157, 158, 159, 160, 161, 162, 163, 164, 165, 166, 167, 168, 169, 170, 171, 172, 173] (by decide +kernel) (by decide +kernel)
theorem ggX13_tries_X13_reads_7 : GoodIn wsX13_tries wsX13_reads_r8 := goodIn_r _ [174, 175, 176, 177, 178, 179, 180, 181, 182, 183, 184, 185, 186, 187, 188, 189, 190, 191, 192, 193, 194, 195, 196, 197] (by decide +kernel) (by decide +kernel)
theorem ggX13_tries_X13_reads_8 : GoodIn wsX13_tries wsX13_reads_r9 := goodIn_r _ [198, 199, 200, 201, 202, 203, 204, 205, 206, 207, 208, 209, 210, 211, 212, 213, 214, 215, 216, 217, 218, 219, 220, 221] (by decide +kernel) (by decide +kernel)
theorem ggX13_tries_X13_reads_9 : GoodIn wsX13_tries wsX13_reads_r10 := goodIn_r _ [222, 223, 224, 225, 226, 227, 228, 229, 230, 231, 232, 233, 234, 235, 236, 237, 238, 239, 240, 241, 242, 243, 244, 245] (by decide +kernel) (by decide +kernel)
theorem ggX13_tries_X13_reads_10 : GoodIn wsX13_tries wsX13_reads_r11 := goodIn_r _ [246, 247, 248, 249, 250, 251, 252, 253, 254, 255, 256, 257, 258, 259, 260, 261, 262, 263, 264, 265, 266, 267, 268, 269] (by decide +kernel) (by decide +kernel)
theorem ggX13_tries_X13_reads_11 : GoodIn wsX13_tries wsX13_reads_r12 := goodIn_r _ [270, 271, 272, 273, 274, 275, 276, 277, 278, 279, 280, 281, 282, 283, 284, 285, 286, 287, 288, 289, 290, 291, 292, 293] (by decide +kernel) (by decide +kernel)
theorem ggX13_tries_X13_reads_12 : GoodIn wsX13_tries wsX13_reads_r13 := goodIn_r _ [294, 295, 296, 297, 298, 299, 300, 301, 302, 303, 304, 305, 306, 307, 308, 309, 310, 311, 312, 313, 314, 315, 316, 317] (by decide +kernel) (by decide +kernel)
theorem ggX13_tries_X13_reads_13 : GoodIn wsX13_tries wsX13_reads_r14 := goodIn_r _ [318, 319, 320, 321, 322, 323, 324, 325, 326, 327, 328, 329, 330, 331, 332, 333, 334, 335, 336, 337, 338, 339, 340, 341] (by decide +kernel) (by decide +kernel)
theorem ggX13_tries_X13_reads_14 : GoodIn wsX13_tries wsX13_reads_r15 := goodIn_r _ [342, 343, 344, 345, 346, 347, 348, 349, 350, 351, 352, 353, 354, 355, 356, 357, 358, 359, 360, 361, 362, 363, 364, 365] (by decide +kernel) (by decide +kernel)
theorem ggX13_tries_X13_reads_15 : GoodIn wsX13_tries wsX13_reads_r16 := goodIn_r _ [366, 367, 368, 369] (by decide +kernel) (by decide +kernel)
theorem ggX13_tries_X13_reads_16 : GoodIn wsX13_tries wsX130 := goodIn_r _ [370, 371, 372, 373, 374, 375, 376, 377, 378, 379, 380, 381, 382, 383] (by decide +kernel) (by decide +kernel)
theorem ggX13_tries_X13_reads_17 : GoodIn wsX13_tries wsX120 := goodIn_r _ [384, 385, 386, 387, 388, 389, 390, 391, 392, 393, 394, 395] (by decide +kernel) (by decide +kernel)
theorem ggX13_tries_X13_reads_18 : GoodIn wsX13_tries wsJx4a65c0 := goodIn_r _ [396, 397, 398] (by decide +kernel) (by decide +kernel)
theorem ggX13_tries_X13_reads_19 : GoodIn wsX13_tries wsJ60 := goodIn_r _ [399] (by decide +kernel) (by decide +kernel)
set_option maxRecDepth 20000 in
theorem ggX13_tries_X13_reads : GoodIn wsX13_tries wsX13_reads := (fun w h => (List.mem_cons.mp h).elim (fun e => ggX13_tries_X13_reads_h w (List.mem_singleton.mpr e)) (fun h => (goodIn_app (goodIn_app (goodIn_app (goodIn_app (goodIn_app ggX13_tries_X13_reads_0 (goodIn_app ggX13_tries_X13_reads_1 (goodIn_app ggX13_tries_X13_reads_2 (goodIn_app ggX13_tries_X13_reads_3 (goodIn_app ggX13_tries_X13_reads_4 (goodIn_app ggX13_tries_X13_reads_5 (goodIn_app ggX13_tries_X13_reads_6 (goodIn_app ggX13_tries_X13_reads_7 (goodIn_app ggX13_tries_X13_reads_8 (goodIn_app ggX13_tries_X13_reads_9 (goodIn_app ggX13_tries_X13_reads_10 (goodIn_app ggX13_tries_X13_reads_11 (goodIn_app ggX13_tries_X13_reads_12 (goodIn_app ggX13_tries_X13_reads_13 (goodIn_app ggX13_tries_X13_reads_14 ggX13_tries_X13_reads_15))))))))))))))) ggX13_tries_X13_reads_16) ggX13_tries_X13_reads_17) ggX13_tries_X13_reads_18) ggX13_tries_X13_reads_19) w h))
set_option maxRecDepth 20000 in
theorem gX13_tries_X13_reads : GoodIn wsX13_tries (wsV RX13 335 RX13 yX13_reads wsX13_reads) := goodIn_app (goodIn_of _ (by decide +kernel)) ggX13_tries_X13_reads
theorem dX13_tries_2 : decode cX13_tries 2 = .ok (.invokevirtual 335, 3) := by decide +kernel
theorem dX13_tries_5 : decode cX13_tries 5 = .ok (.istore_n 1, 1) := by decide +kernel
theorem dX13_tries_6 : decode cX13_tries 6 = .ok (.aload_n 0, 1) := by decide +kernel
theorem dX13_tries_7 : decode cX13_tries 7 = .ok (.getfield 236, 3) := by decide +kernel
theorem dX13_tries_10 : decode cX13_tries 10 = .ok (.ifCond .ne 35, 3) := by decide +kernel
theorem dX13_tries_13 : decode cX13_tries 13 = .ok (.iconst 0, 1) := by decide +kernel
theorem dX13_tries_14 : decode cX13_tries 14 = .ok (.istore_n 2, 1) := by decide +kernel
theorem dX13_tries_15 : decode cX13_tries 15 = .ok (.iload_n 2, 1) := by decide +kernel
theorem dX13_tries_16 : decode cX13_tries 16 = .ok (.bipush 8, 2) := by decide +kernel
theorem dX13_tries_18 : decode cX13_tries 18 = .ok (.if_icmp .ge 21, 3) := by decide +kernel
theorem dX13_tries_21 : decode cX13_tries 21 = .ok (.aload_n 0, 1) := by decide +kernel
theorem dX13_tries_22 : decode cX13_tries 22 = .ok (.getfield 32, 3) := by decide +kernel
theorem dX13_tries_25 : decode cX13_tries 25 = .ok (.iload_n 2, 1) := by decide +kernel
theorem dX13_tries_26 : decode cX13_tries 26 = .ok (.aload_n 0, 1) := by decide +kernel
theorem dX13_tries_27 : decode cX13_tries 27 = .ok (.getfield 29, 3) := by decide +kernel
theorem dX13_tries_30 : decode cX13_tries 30 = .ok (.iload_n 2, 1) := by decide +kernel
theorem dX13_tries_31 : decode cX13_tries 31 = .ok (.aaload, 1) := by decide +kernel
theorem dX13_tries_32 : decode cX13_tries 32 = .ok (.aastore, 1) := by decide +kernel
theorem dX13_tries_33 : decode cX13_tries 33 = .ok (.iinc 2 1, 3) := by decide +kernel
theorem dX13_tries_36 : decode cX13_tries 36 = .ok (.goto (-21), 3) := by decide +kernel
theorem dX13_tries_39 : decode cX13_tries 39 = .ok (.aload_n 0, 1) := by decide +kernel
theorem dX13_tries_40 : decode cX13_tries 40 = .ok (.iconst 1, 1) := by decide +kernel
theorem dX13_tries_41 : decode cX13_tries 41 = .ok (.invokevirtual 335, 3) := by decide +kernel
theorem dX13_tries_44 : decode cX13_tries 44 = .ok (.istore_n 1, 1) := by decide +kernel
theorem dX13_tries_45 : decode cX13_tries 45 = .ok (.iload_n 1, 1) := by decide +kernel
theorem dX13_tries_46 : decode cX13_tries 46 = .ok (.ireturn, 1) := by decide +kernel
theorem dX13_errorKind_0 : decode cX13_errorKind 0 = .ok (.aload_n 0, 1) := by decide +kernel
theorem dX13_errorKind_1 : decode cX13_errorKind 1 = .ok (.iconst 0, 1) := by decide +kernel
theorem dX13_errorKind_2 : decode cX13_errorKind 2 = .ok (.putfield 1, 3) := by decide +kernel
theorem dX13_errorKind_5 : decode cX13_errorKind 5 = .ok (.aload_n 0, 1) := by decide +kernel
theorem ggX13_errorKind_X13_tries_h : GoodIn wsX13_errorKind [.code yX13_tries cX13_tries 3 (some .int)] := goodIn_r _ [7] (by decide +kernel) (by decide +kernel)
theorem ggX13_errorKind_X13_tries_0 : GoodIn wsX13_errorKind wsX13_tries_r1 := goodIn_r _ [2, 8, 9, 10, 11, 12, 6, 13, 14, 15, 16, 17, 18, 19, 20, 21, 22, 23, 24, 25, 26, 27, 28, 29] (by decide +kernel) (by decide +kernel)
theorem ggX13_errorKind_X13_tries_1 : GoodIn wsX13_errorKind wsX13_tries_r2 := goodIn_r _ [30, 31, 32, 33, 34, 35, 36, 37, 38, 39, 40, 41, 42, 43, 44, 45, 46, 47, 48, 49, 50, 51, 52, 53] (by decide +kernel) (by decide +kernel)
theorem ggX13_errorKind_X13_tries_2 : GoodIn wsX13_errorKind wsX13_tries_r3 := goodIn_r _ [54, 55, 56, 57, 58, 59, 60, 61, 62, 63, 64, 65, 66, 67, 68, 69, 70, 71, 72, 73, 74, 75, 76, 77] (by decide +kernel) (by decide +kernel)
theorem ggX13_errorKind_X13_tries_3 : GoodIn wsX13_errorKind wsX13_tries_r4 := goodIn_r _ [78, 79, 80, 81, 82, 83, 84, 85, 86, 87, 88, 89, 90, 91, 92, 93, 94, 95, 96, 97, 98, 99, 100, 101] (by decide +kernel) (by decide +kernel)
theorem ggX13_errorKind_X13_tries_4 : GoodIn wsX13_errorKind wsX13_tries_r5 := goodIn_r _ [102, 103, 104, 105, 106, 107, 108, 109, 110, 111, 112, 113, 114, 115, 116, 117, 118, 119, 120, 121, 122, 123, 124, 125] (by decide +kernel) (by decide +kernel)
theorem ggX13_errorKind_X13_tries_5 : GoodIn wsX13_errorKind wsX13_tries_r6 := goodIn_r _ [126, 127, 128, 129, 130, 131, 132, 133, 134, 135, 136, 137, 138, 139, 140, 141, 142, 143, 144, 145, 146, 147, 148, 149] (by decide +kernel) (by decide +kernel)
theorem ggX13_errorKind_X13_tries_6 : GoodIn wsX13_errorKind wsX13_tries_r7 := goodIn_r _ [150, 151, 152, 153, 154, 155, 156, 157, 158, 159, 160, 161, 162, 163, 164, 165, 166, 167, 168, 169, 170, 171, 172, 173] (by decide +kernel) (by decide +kernel)
theorem ggX13_errorKind_X13_tries_7 : GoodIn wsX13_errorKind wsX13_tries_r8 := goodIn_r _ [174, 175, 176, 177, 178, 179, 180, 181, 182, 183, 184, 185, 186, 187, 188, 189, 190, 191, 192, 193, 194, 195, 196, 197] (by decide +kernel) (by decide +kernel)
theorem ggX13_errorKind_X13_tries_8 : GoodIn wsX13_errorKind wsX13_tries_r9 := goodIn_r _ [198, 199, 200, 201, 202, 203, 204, 205, 206, 207, 208, 209, 210, 211, 212, 213, 214, 215, 216, 217, 218, 219, 220, 221] (by decide +kernel) (by decide +kernel)
theorem ggX13_errorKind_X13_tries_9 : GoodIn wsX13_errorKind wsX13_tries_r10 := goodIn_r _ [222, 223, 224, 225, 226, 227, 228, 229, 230, 231, 232, 233, 234, 235, 236, 237, 238, 239, 240, 241, 242, 243, 244, 245] (by decide +kernel) (by decide +kernel)
theorem ggX13_errorKind_X13_tries_10 : GoodIn wsX13_errorKind wsX13_tries_r11 := goodIn_r _ [246, 247, 248, 249, 250, 251, 252, 253, 254, 255, 256, 257, 258, 259, 260, 261, 262, 263, 264, 265, 266, 267, 268, 269] (by decide +kernel) (by decide +kernel)
theorem ggX13_errorKind_X13_tries_11 : GoodIn wsX13_errorKind wsX13_tries_r12 := goodIn_r _ [270, 271, 272, 273, 274, 275, 276, 277, 278, 279, 280, 281, 282, 283, 284, 285, 286, 287, 288, 289, 290, 291, 292, 293] (by decide +kernel) (by decide +kernel)
theorem ggX13_errorKind_X13_tries_12 : GoodIn wsX13_errorKind wsX13_tries_r13 := goodIn_r _ [294, 295, 296, 297, 298, 299, 300, 301, 302, 303, 304, 305, 306, 307, 308, 309, 310, 311, 312, 313, 314, 315, 316, 317] (by decide +kernel) (by decide +kernel)
theorem ggX13_errorKind_X13_tries_13 : GoodIn wsX13_errorKind wsX13_tries_r14 := goodIn_r _ [318, 319, 320, 321, 322, 323, 324, 325, 326, 327, 328, 329, 330, 331, 332, 333, 334, 335, 336, 337, 338, 339, 340, 341] (by decide +kernel) (by decide +kernel)
theorem ggX13_errorKind_X13_tries_14 : GoodIn wsX13_errorKind wsX13_tries_r15 := goodIn_r _ [342, 343, 344, 345, 346, 347, 348, 349, 350, 351, 352, 353, 354, 355, 356, 357, 358, 359, 360, 361, 362, 363, 364, 365] (by decide +kernel) (by decide +kernel)
theorem ggX13_errorKind_X13_tries_15 : GoodIn wsX13_errorKind wsX13_tries_r16 := goodIn_r _ [366, 367, 368, 369, 370, 371, 372, 373, 374] (by decide +kernel) (by decide +kernel)
theorem ggX13_errorKind_X13_tries_16 : GoodIn wsX13_errorKind wsX130 := goodIn_r _ [375, 376, 377, 378, 379, 380, 381, 382, 383, 384, 385, 386, 387, 388] (by decide +kernel) (by decide +kernel)
theorem ggX13_errorKind_X13_tries_17 : GoodIn wsX13_errorKind wsX120 := goodIn_r _ [389, 390, 391, 392, 393, 394, 395, 396, 397, 398, 399, 400] (by decide +kernel) (by decide +kernel)
theorem ggX13_errorKind_X13_tries_18 : GoodIn wsX13_errorKind wsJx4a65c0 := goodIn_r _ [401, 402, 403] (by decide +kernel) (by decide +kernel)
theorem ggX13_errorKind_X13_tries_19 : GoodIn wsX13_errorKind wsJ60 := goodIn_r _ [404] (by decide +kernel) (by decide +kernel)
set_option maxRecDepth 20000 in
theorem ggX13_errorKind_X13_tries : GoodIn wsX13_errorKind wsX13_tries := (fun w h => (List.mem_cons.mp h).elim (fun e => ggX13_errorKind_X13_tries_h w (List.mem_singleton.mpr e)) (fun h => (goodIn_app (goodIn_app (goodIn_app (goodIn_app (goodIn_app ggX13_errorKind_X13_tries_0 (goodIn_app ggX13_errorKind_X13_tries_1 (goodIn_app ggX13_errorKind_X13_tries_2 (goodIn_app ggX13_errorKind_X13_tries_3 (goodIn_app ggX13_errorKind_X13_tries_4 (goodIn_app ggX13_errorKind_X13_tries_5 (goodIn_app ggX13_errorKind_X13_tries_6 (goodIn_app ggX13_errorKind_X13_tries_7 (goodIn_app ggX13_errorKind_X13_tries_8 (goodIn_app ggX13_errorKind_X13_tries_9 (goodIn_app ggX13_errorKind_X13_tries_10 (goodIn_app ggX13_errorKind_X13_tries_11 (goodIn_app ggX13_errorKind_X13_tries_12 (goodIn_app ggX13_errorKind_X13_tries_13 (goodIn_app ggX13_errorKind_X13_tries_14 ggX13_errorKind_X13_tries_15))))))))))))))) ggX13_errorKind_X13_tries_16) ggX13_errorKind_X13_tries_17) ggX13_errorKind_X13_tries_18) ggX13_errorKind_X13_tries_19) w h))
set_option maxRecDepth 20000 in
theorem gX13_errorKind_X13_tries : GoodIn wsX13_errorKind (wsV RX13 339 RX13 yX13_tries wsX13_tries) := goodIn_app (goodIn_of _ (by decide +kernel)) ggX13_errorKind_X13_tries
theorem dX13_errorKind_6 : decode cX13_errorKind 6 = .ok (.invokevirtual 339, 3) := by decide +kernel
theorem dX13_errorKind_9 : decode cX13_errorKind 9 = .ok (.istore_n 1, 1) := by decide +kernel
theorem dX13_errorKind_10 : decode cX13_errorKind 10 = .ok (.aload_n 0, 1) := by decide +kernel
theorem dX13_errorKind_11 : decode cX13_errorKind 11 = .ok (.getfield 236, 3) := by decide +kernel
theorem dX13_errorKind_14 : decode cX13_errorKind 14 = .ok (.ireturn, 1) := by decide +kernel
theorem dX13_errorPlace_0 : decode cX13_errorPlace 0 = .ok (.aload_n 0, 1) := by decide +kernel
theorem dX13_errorPlace_1 : decode cX13_errorPlace 1 = .ok (.iconst 0, 1) := by decide +kernel
theorem dX13_errorPlace_2 : decode cX13_errorPlace 2 = .ok (.putfield 1, 3) := by decide +kernel
theorem dX13_errorPlace_5 : decode cX13_errorPlace 5 = .ok (.aload_n 0, 1) := by decide +kernel
theorem ggX13_errorPlace_X13_tries_h : GoodIn wsX13_errorPlace [.code yX13_tries cX13_tries 3 (some .int)] := goodIn_r _ [7] (by decide +kernel) (by decide +kernel)
theorem ggX13_errorPlace_X13_tries_0 : GoodIn wsX13_errorPlace wsX13_tries_r1 := goodIn_r _ [8, 9, 10, 11, 12, 13, 6, 14, 2, 15, 16, 17, 18, 19, 20, 21, 22, 23, 24, 25, 26, 27, 28, 29] (by decide +kernel) (by decide +kernel)
theorem ggX13_errorPlace_X13_tries_1 : GoodIn wsX13_errorPlace wsX13_tries_r2 := goodIn_r _ [30, 31, 32, 33, 34, 35, 36, 37, 38, 39, 40, 41, 42, 43, 44, 45, 46, 47, 48, 49, 50, 51, 52, 53] (by decide +kernel) (by decide +kernel)
theorem ggX13_errorPlace_X13_tries_2 : GoodIn wsX13_errorPlace wsX13_tries_r3 := goodIn_r _ [54, 55, 56, 57, 58, 59, 60, 61, 62, 63, 64, 65, 66, 67, 68, 69, 70, 71, 72, 73, 74, 75, 76, 77] (by decide +kernel) (by decide +kernel)
theorem ggX13_errorPlace_X13_tries_3 : GoodIn wsX13_errorPlace wsX13_tries_r4 := goodIn_r _ [78, 79, 80, 81, 82, 83, 84, 85, 86, 87, 88, 89, 90, 91, 92, 93, 94, 95, 96, 97, 98, 99, 100, 101] (by decide +kernel) (by decide +kernel)
theorem ggX13_errorPlace_X13_tries_4 : GoodIn wsX13_errorPlace wsX13_tries_r5 := goodIn_r _ [102, 103, 104, 105, 106, 107, 108, 109, 110, 111, 112, 113, 114, 115, 116, 117, 118, 119, 120, 121, 122, 123, 124, 125] (by decide +kernel) (by decide +kernel)
theorem ggX13_errorPlace_X13_tries_5 : GoodIn wsX13_errorPlace wsX13_tries_r6 := goodIn_r _ [126, 127, 128, 129, 130, 131, 132, 133, 134, 135, 136, 137, 138, 139, 140, 141, 142, 143, 144, 145, 146, 147, 148, 149] (by decide +kernel) (by decide +kernel)
theorem ggX13_errorPlace_X13_tries_6 : GoodIn wsX13_errorPlace wsX13_tries_r7 := goodIn_r _ [150, 151, 152, 153, 154, 155, 156, 157, 158, 159, 160, 161, 162, 163, 164, 165, 166, 167, 168, 169, 170, 171, 172, 173] (by decide +kernel) (by decide +kernel)
theorem ggX13_errorPlace_X13_tries_7 : GoodIn wsX13_errorPlace wsX13_tries_r8 := goodIn_r _ [174, 175, 176, 177, 178, 179, 180, 181, 182, 183, 184, 185, 186, 187, 188, 189, 190, 191, 192, 193, 194, 195, 196, 197] (by decide +kernel) (by decide +kernel)
theorem ggX13_errorPlace_X13_tries_8 : GoodIn wsX13_errorPlace wsX13_tries_r9 := goodIn_r _ [198, 199, 200, 201, 202, 203, 204, 205, 206, 207, 208, 209, 210, 211, 212, 213, 214, 215, 216, 217, 218, 219, 220, 221] (by decide +kernel) (by decide +kernel)
theorem ggX13_errorPlace_X13_tries_9 : GoodIn wsX13_errorPlace wsX13_tries_r10 := goodIn_r _ [222, 223, 224, 225, 226, 227, 228, 229, 230, 231, 232, 233, 234, 235, 236, 237, 238, 239, 240, 241, 242, 243, 244, 245] (by decide +kernel) (by decide +kernel)
theorem ggX13_errorPlace_X13_tries_10 : GoodIn wsX13_errorPlace wsX13_tries_r11 := goodIn_r _ [246, 247, 248, 249, 250, 251, 252, 253, 254, 255, 256, 257, 258, 259, 260, 261, 262, 263, 264, 265, 266, 267, 268, 269] (by decide +kernel) (by decide +kernel)
theorem ggX13_errorPlace_X13_tries_11 : GoodIn wsX13_errorPlace wsX13_tries_r12 := goodIn_r _ [270, 271, 272, 273, 274, 275, 276, 277, 278, 279, 280, 281, 282, 283, 284, 285, 286, 287, 288, 289, 290, 291, 292, 293] (by decide +kernel) (by decide +kernel)
theorem ggX13_errorPlace_X13_tries_12 : GoodIn wsX13_errorPlace wsX13_tries_r13 := goodIn_r _ [294, 295, 296, 297, 298, 299, 300, 301, 302, 303, 304, 305, 306, 307, 308, 309, 310, 311, 312, 313, 314, 315, 316, 317] (by decide +kernel) (by decide +kernel)
theorem ggX13_errorPlace_X13_tries_13 : GoodIn wsX13_errorPlace wsX13_tries_r14 := goodIn_r _ [318, 319, 320, 321, 322, 323, 324, 325, 326, 327, 328, 329, 330, 331, 332, 333, 334, 335, 336, 337, 338, 339, 340, 341] (by decide +kernel) (by decide +kernel)
theorem ggX13_errorPlace_X13_tries_14 : GoodIn wsX13_errorPlace wsX13_tries_r15 := goodIn_r _ [342, 343, 344, 345, 346, 347, 348, 349, 350, 351, 352, 353, 354, 355, 356, 357, 358, 359, 360, 361, 362, 363, 364, 365] (by decide +kernel) (by decide +kernel)
theorem ggX13_errorPlace_X13_tries_15 : GoodIn wsX13_errorPlace wsX13_tries_r16 := goodIn_r _ [366, 367, 368, 369, 370, 371, 372, 373, 374] (by decide +kernel) (by decide +kernel)
theorem ggX13_errorPlace_X13_tries_16 : GoodIn wsX13_errorPlace wsX130 := goodIn_r _ [375, 376, 377, 378, 379, 380, 381, 382, 383, 384, 385, 386, 387, 388] (by decide +kernel) (by decide +kernel)
theorem ggX13_errorPlace_X13_tries_17 : GoodIn wsX13_errorPlace wsX120 := goodIn_r _ [389, 390, 391, 392, 393, 394, 395, 396, 397, 398, 399, 400] (by decide +kernel) (by decide +kernel)
theorem ggX13_errorPlace_X13_tries_18 : GoodIn wsX13_errorPlace wsJx4a65c0 := goodIn_r _ [401, 402, 403] (by decide +kernel) (by decide +kernel)
theorem ggX13_errorPlace_X13_tries_19 : GoodIn wsX13_errorPlace wsJ60 := goodIn_r _ [404] (by decide +kernel) (by decide +kernel)
set_option maxRecDepth 20000 in
theorem ggX13_errorPlace_X13_tries : GoodIn wsX13_errorPlace wsX13_tries := (fun w h => (List.mem_cons.mp h).elim (fun e => ggX13_errorPlace_X13_tries_h w (List.mem_singleton.mpr e)) (fun h => (goodIn_app (goodIn_app (goodIn_app (goodIn_app (goodIn_app ggX13_errorPlace_X13_tries_0 (goodIn_app ggX13_errorPlace_X13_tries_1 (goodIn_app ggX13_errorPlace_X13_tries_2 (goodIn_app ggX13_errorPlace_X13_tries_3 (goodIn_app ggX13_errorPlace_X13_tries_4 (goodIn_app ggX13_errorPlace_X13_tries_5 (goodIn_app ggX13_errorPlace_X13_tries_6 (goodIn_app ggX13_errorPlace_X13_tries_7 (goodIn_app ggX13_errorPlace_X13_tries_8 (goodIn_app ggX13_errorPlace_X13_tries_9 (goodIn_app ggX13_errorPlace_X13_tries_10 (goodIn_app ggX13_errorPlace_X13_tries_11 (goodIn_app ggX13_errorPlace_X13_tries_12 (goodIn_app ggX13_errorPlace_X13_tries_13 (goodIn_app ggX13_errorPlace_X13_tries_14 ggX13_errorPlace_X13_tries_15))))))))))))))) ggX13_errorPlace_X13_tries_16) ggX13_errorPlace_X13_tries_17) ggX13_errorPlace_X13_tries_18) ggX13_errorPlace_X13_tries_19) w h))
set_option maxRecDepth 20000 in
theorem gX13_errorPlace_X13_tries : GoodIn wsX13_errorPlace (wsV RX13 339 RX13 yX13_tries wsX13_tries) := goodIn_app (goodIn_of _ (by decide +kernel)) ggX13_errorPlace_X13_tries
theorem dX13_errorPlace_6 : decode cX13_errorPlace 6 = .ok (.invokevirtual 339, 3) := by decide +kernel
theorem dX13_errorPlace_9 : decode cX13_errorPlace 9 = .ok (.istore_n 1, 1) := by decide +kernel
theorem dX13_errorPlace_10 : decode cX13_errorPlace 10 = .ok (.aload_n 0, 1) := by decide +kernel
theorem dX13_errorPlace_11 : decode cX13_errorPlace 11 = .ok (.getfield 239, 3) := by decide +kernel
theorem dX13_errorPlace_14 : decode cX13_errorPlace 14 = .ok (.ireturn, 1) := by decide +kernel
theorem dX13_run_0 : decode cX13_run 0 = .ok (.aload_n 0, 1) := by decide +kernel
theorem ggX13_run_X13_tries_h : GoodIn wsX13_run [.code yX13_tries cX13_tries 3 (some .int)] := goodIn_r _ [8] (by decide +kernel) (by decide +kernel)
theorem ggX13_run_X13_tries_0 : GoodIn wsX13_run wsX13_tries_r1 := goodIn_r _ [1, 3, 2, 9, 10, 11, 7, 12, 13, 14, 15, 16, 17, 18, 19, 20, 21, 22, 23, 24, 25, 26, 27, 28] (by decide +kernel) (by decide +kernel)
theorem ggX13_run_X13_tries_1 : GoodIn wsX13_run wsX13_tries_r2 := goodIn_r _ [29, 30, 31, 32, 33, 34, 35, 36, 37, 38, 39, 40, 41, 42, 43, 44, 45, 46, 47, 48, 49, 50, 51, 52] (by decide +kernel) (by decide +kernel)
theorem ggX13_run_X13_tries_2 : GoodIn wsX13_run wsX13_tries_r3 := goodIn_r _ [53, 54, 55, 56, 57, 58, 59, 60, 61, 62, 63, 64, 65, 66, 67, 68, 69, 70, 71, 72, 73, 74, 75, 76] (by decide +kernel) (by decide +kernel)
theorem ggX13_run_X13_tries_3 : GoodIn wsX13_run wsX13_tries_r4 := goodIn_r _ [77, 78, 79, 80, 81, 82, 83, 84, 85, 86, 87, 88, 89, 90, 91, 92, 93, 94, 95, 96, 97, 98, 99, 100] (by decide +kernel) (by decide +kernel)
theorem ggX13_run_X13_tries_4 : GoodIn wsX13_run wsX13_tries_r5 := goodIn_r _ [101, 102, 103, 104, 105, 106, 107, 108, 109, 110, 111, 112, 113, 114, 115, 116, 117, 118, 119, 120, 121, 122, 123, 124] (by decide +kernel) (by decide +kernel)
theorem ggX13_run_X13_tries_5 : GoodIn wsX13_run wsX13_tries_r6 := goodIn_r _ [125, 126, 127, 128, 129, 130, 131, 132, 133, 134, 135, 136, 137, 138, 139, 140, 141, 142, 143, 144, 145, 146, 147, 148] (by decide +kernel) (by decide +kernel)
theorem ggX13_run_X13_tries_6 : GoodIn wsX13_run wsX13_tries_r7 := goodIn_r _ [149, 150, 151, 152, 153, 154, 155, 156, 157, 158, 159, 160, 161, 162, 163, 164, 165, 166, 167, 168, 169, 170, 171, 172] (by decide +kernel) (by decide +kernel)
theorem ggX13_run_X13_tries_7 : GoodIn wsX13_run wsX13_tries_r8 := goodIn_r _ [173, 174, 175, 176, 177, 178, 179, 180, 181, 182, 183, 184, 185, 186, 187, 188, 189, 190, 191, 192, 193, 194, 195, 196] (by decide +kernel) (by decide +kernel)
theorem ggX13_run_X13_tries_8 : GoodIn wsX13_run wsX13_tries_r9 := goodIn_r _ [197, 198, 199, 200, 201, 202, 203, 204, 205, 206, 207, 208, 209, 210, 211, 212, 213, 214, 215, 216, 217, 218, 219, 220] (by decide +kernel) (by decide +kernel)
theorem ggX13_run_X13_tries_9 : GoodIn wsX13_run wsX13_tries_r10 := goodIn_r _ [221, 222, 223, 224, 225, 226, 227, 228, 229, 230, 231, 232, 233, 234, 235, 236, 237, 238, 239, 240, 241, 242, 243, 244] (by decide +kernel) (by decide +kernel)
theorem ggX13_run_X13_tries_10 : GoodIn wsX13_run wsX13_tries_r11 := goodIn_r _ [245, 246, 247, 248, 249, 250, 251, 252, 253, 254, 255, 256, 257, 258, 259, 260, 261, 262, 263, 264, 265, 266, 267, 268] (by decide +kernel) (by decide +kernel)
theorem ggX13_run_X13_tries_11 : GoodIn wsX13_run wsX13_tries_r12 := goodIn_r _ [269, 270, 271, 272, 273, 274, 275, 276, 277, 278, 279, 280, 281, 282, 283, 284, 285, 286, 287, 288, 289, 290, 291, 292] (by decide +kernel) (by decide +kernel)
theorem ggX13_run_X13_tries_12 : GoodIn wsX13_run wsX13_tries_r13 := goodIn_r _ [293, 294, 295, 296, 297, 298, 299, 300, 301, 302, 303, 304, 305, 306, 307, 308, 309, 310, 311, 312, 313, 314, 315, 316] (by decide +kernel) (by decide +kernel)
theorem ggX13_run_X13_tries_13 : GoodIn wsX13_run wsX13_tries_r14 := goodIn_r _ [317, 318, 319, 320, 321, 322, 323, 324, 325, 326, 327, 328, 329, 330, 331, 332, 333, 334, 335, 336, 337, 338, 339, 340] (by decide +kernel) (by decide +kernel)
theorem ggX13_run_X13_tries_14 : GoodIn wsX13_run wsX13_tries_r15 := goodIn_r _ [341, 342, 343, 344, 345, 346, 347, 348, 349, 350, 351, 352, 353, 354, 355, 356, 357, 358, 359, 360, 361, 362, 363, 364] (by decide +kernel) (by decide +kernel)
theorem ggX13_run_X13_tries_15 : GoodIn wsX13_run wsX13_tries_r16 := goodIn_r _ [365, 366, 367, 368, 369, 370, 371, 372, 373] (by decide +kernel) (by decide +kernel)
theorem ggX13_run_X13_tries_16 : GoodIn wsX13_run wsX130 := goodIn_r _ [379, 380, 381, 382, 383, 384, 385, 386, 387, 388, 389, 390, 391, 392] (by decide +kernel) (by decide +kernel)
theorem ggX13_run_X13_tries_17 : GoodIn wsX13_run wsX120 := goodIn_r _ [393, 394, 395, 396, 397, 398, 399, 400, 401, 402, 403, 404] (by decide +kernel) (by decide +kernel)
theorem ggX13_run_X13_tries_18 : GoodIn wsX13_run wsJx4a65c0 := goodIn_r _ [405, 406, 407] (by decide +kernel) (by decide +kernel)
theorem ggX13_run_X13_tries_19 : GoodIn wsX13_run wsJ60 := goodIn_r _ [408] (by decide +kernel) (by decide +kernel)
set_option maxRecDepth 20000 in
theorem ggX13_run_X13_tries : GoodIn wsX13_run wsX13_tries := (fun w h => (List.mem_cons.mp h).elim (fun e => ggX13_run_X13_tries_h w (List.mem_singleton.mpr e)) (fun h => (goodIn_app (goodIn_app (goodIn_app (goodIn_app (goodIn_app ggX13_run_X13_tries_0 (goodIn_app ggX13_run_X13_tries_1 (goodIn_app ggX13_run_X13_tries_2 (goodIn_app ggX13_run_X13_tries_3 (goodIn_app ggX13_run_X13_tries_4 (goodIn_app ggX13_run_X13_tries_5 (goodIn_app ggX13_run_X13_tries_6 (goodIn_app ggX13_run_X13_tries_7 (goodIn_app ggX13_run_X13_tries_8 (goodIn_app ggX13_run_X13_tries_9 (goodIn_app ggX13_run_X13_tries_10 (goodIn_app ggX13_run_X13_tries_11 (goodIn_app ggX13_run_X13_tries_12 (goodIn_app ggX13_run_X13_tries_13 (goodIn_app ggX13_run_X13_tries_14 ggX13_run_X13_tries_15))))))))))))))) ggX13_run_X13_tries_16) ggX13_run_X13_tries_17) ggX13_run_X13_tries_18) ggX13_run_X13_tries_19) w h))
set_option maxRecDepth 20000 in
theorem gX13_run_X13_tries : GoodIn wsX13_run (wsV RX13 339 RX13 yX13_tries wsX13_tries) := goodIn_app (goodIn_of _ (by decide +kernel)) ggX13_run_X13_tries
theorem dX13_run_1 : decode cX13_run 1 = .ok (.invokevirtual 339, 3) := by decide +kernel
theorem dX13_run_4 : decode cX13_run 4 = .ok (.istore_n 1, 1) := by decide +kernel
theorem dX13_run_5 : decode cX13_run 5 = .ok (.aload_n 0, 1) := by decide +kernel
theorem dX13_run_6 : decode cX13_run 6 = .ok (.aload_n 0, 1) := by decide +kernel
theorem dX13_run_7 : decode cX13_run 7 = .ok (.getfield 236, 3) := by decide +kernel
theorem dX13_run_10 : decode cX13_run 10 = .ok (.ifCond .ne 7, 3) := by decide +kernel
theorem dX13_run_13 : decode cX13_run 13 = .ok (.iconst 1, 1) := by decide +kernel
theorem dX13_run_14 : decode cX13_run 14 = .ok (.goto 4, 3) := by decide +kernel
theorem dX13_run_18 : decode cX13_run 18 = .ok (.iconst 1, 1) := by decide +kernel
theorem dX13_run_19 : decode cX13_run 19 = .ok (.iconst 1, 1) := by decide +kernel
set_option maxRecDepth 20000 in
theorem ggX13_run_X13_passes : GoodIn wsX13_run wsX13_passes := goodIn_r _ [377, 378, 379, 380, 381, 382, 383, 384, 385, 386, 387, 388, 389, 390, 391, 392] (by decide +kernel) (by decide +kernel)
set_option maxRecDepth 20000 in
theorem gX13_run_X13_passes : GoodIn wsX13_run (wsV RX13 55 RX13 yX13_passes wsX13_passes) := goodIn_app (goodIn_of _ (by decide +kernel)) ggX13_run_X13_passes
theorem dX13_run_20 : decode cX13_run 20 = .ok (.invokevirtual 55, 3) := by decide +kernel
theorem dX13_run_23 : decode cX13_run 23 = .ok (.ifCond .ne 5, 3) := by decide +kernel
theorem dX13_run_28 : decode cX13_run 28 = .ok (.iconst 0, 1) := by decide +kernel
theorem dX13_run_29 : decode cX13_run 29 = .ok (.istore_n 2, 1) := by decide +kernel
theorem dX13_run_30 : decode cX13_run 30 = .ok (.iload_n 2, 1) := by decide +kernel
theorem dX13_run_31 : decode cX13_run 31 = .ok (.bipush 8, 2) := by decide +kernel
theorem dX13_run_33 : decode cX13_run 33 = .ok (.if_icmp .ge 21, 3) := by decide +kernel
theorem dX13_run_36 : decode cX13_run 36 = .ok (.aload_n 0, 1) := by decide +kernel
theorem dX13_run_37 : decode cX13_run 37 = .ok (.getfield 29, 3) := by decide +kernel
theorem dX13_run_40 : decode cX13_run 40 = .ok (.iload_n 2, 1) := by decide +kernel
theorem dX13_run_41 : decode cX13_run 41 = .ok (.aload_n 0, 1) := by decide +kernel
theorem dX13_run_42 : decode cX13_run 42 = .ok (.getfield 32, 3) := by decide +kernel
theorem dX13_run_45 : decode cX13_run 45 = .ok (.iload_n 2, 1) := by decide +kernel
theorem dX13_run_46 : decode cX13_run 46 = .ok (.aaload, 1) := by decide +kernel
theorem dX13_run_47 : decode cX13_run 47 = .ok (.aastore, 1) := by decide +kernel
theorem dX13_run_48 : decode cX13_run 48 = .ok (.iinc 2 1, 3) := by decide +kernel
theorem dX13_run_51 : decode cX13_run 51 = .ok (.goto (-21), 3) := by decide +kernel
theorem dX13_run_54 : decode cX13_run 54 = .ok (.iload_n 1, 1) := by decide +kernel
theorem dX13_run_55 : decode cX13_run 55 = .ok (.ireturn, 1) := by decide +kernel
set_option maxHeartbeats 4000000 in
set_option maxRecDepth 100000 in
theorem c_X13_passes_y (l : Launch) (dC : Nat → ClassId) (dI : Nat → Nat → Nat) (g : Nat → ClassId) (b : Nat → Nat) (r1 : Nat → Nat) (r2 : Nat → Nat) (th : Int32) (B1 : Bool) (B2 : Bool) (B3 : Bool) (sz : Nat) : Met l yX13_passes wsX13_passes ({ frames := 0, cells := 0, slots := 0, locals := 0 }) (va_Pc [.ref (b 0), .int (b2i B1), .int (b2i B2), .int (b2i B3)] (PG (dC, dI) g [((b 0), .inr (15, [.int th, .ref (b 1), .ref (b 2), .int 0, .ref (b 3), .ref (b 4), .ref (b 5), .null, .ref (b 6), .int 0, .int 0, .int 0, .int 0, .int (-1)]))] sz)) (va_Qi (fun (r : Int32) (_ : Unit) => r = b2i (B1 && B2 && B3)) (fun (_ : Unit) t9 => va_P (dC, dI) vwCl [((b 0), .inr (15, [.int (cd B1 B2 B3), .ref (b 1), .ref (b 2), .int 0, .ref (b 3), .ref (b 4), .ref (b 5), .null, .ref (b 6), .int 0, .int 0, .int 0, .int 0, .int (-1)]))] t9.heap ∧ va_D (va_A [((b 0), .inr (15, [.int th, .ref (b 1), .ref (b 2), .int 0, .ref (b 3), .ref (b 4), .ref (b 5), .null, .ref (b 6), .int 0, .int 0, .int 0, .int 0, .int (-1)]))] sz) [((b 0), .inr (15, [.int (cd B1 B2 B3), .ref (b 1), .ref (b 2), .int 0, .ref (b 3), .ref (b 4), .ref (b 5), .null, .ref (b 6), .int 0, .int 0, .int 0, .int 0, .int (-1)]))]) (va_A [((b 0), .inr (15, [.int th, .ref (b 1), .ref (b 2), .int 0, .ref (b 3), .ref (b 4), .ref (b 5), .null, .ref (b 6), .int 0, .int 0, .int 0, .int 0, .int (-1)]))] sz)) 0 0 (va_A [((b 0), .inr (15, [.int th, .ref (b 1), .ref (b 2), .int 0, .ref (b 3), .ref (b 4), .ref (b 5), .null, .ref (b 6), .int 0, .int 0, .int 0, .int 0, .int (-1)]))] sz) := by
  refine Met.ofW (cc := cX13_passes) (maxL := 4) (ret := (some .boolean)) (by decide) rfl ?_
  intro p e s m args below meth c s₁ B hml hv
  obtain ⟨rfl, hsz, hP, hK, hD0, hG⟩ := hv
  have hx := B.exec
  have hb := B.bytes
  have hr := B.returns
  have hts := atoms_spec (ws := wsX13_passes) B.pre
  have hown : s.vm.findClass RX13 = some m.cls := findClass_of_methodNamed B.named
  have hlocks := B.notSynchronized
  subst hsz
  have hD := hD0.self (sz := s.heap.size)
  generalize hAe : va_A [((b 0), .inr (15, [.int th, .ref (b 1), .ref (b 2), .int 0, .ref (b 3), .ref (b 4), .ref (b 5), .null, .ref (b 6), .int 0, .int 0, .int 0, .int 0, .int (-1)]))] s.heap.size = A at hD hG ⊢
  have hA : ∀ q : Nat, s.heap.size ≤ q → A q := fun q h => by rw [← hAe]; exact Or.inr h
  have hS : va_S A s.heap s.heap [] := va_S.rf
  have hl := lv_entry ([.ref (b 0), .int (b2i B1), .int (b2i B2), .int (b2i B3)]) (n := 4) (Nat.le_of_ble_eq_true rfl)
  rw [lg_entry_eq]
  generalize (lg_sl ([.ref (b 0), .int (b2i B1), .int (b2i B2), .int (b2i B3)]) ++ List.replicate (4 - (lg_sl ([.ref (b 0), .int (b2i B1), .int (b2i B2), .int (b2i B3)])).length) Slot.unset).toArray = ls at hl ⊢
  have hl : lv_has ls 4 [(0, .ref (b 0)), (1, .int (b2i B1)), (2, .int (b2i B2)), (3, .int (b2i B3))] := hl
  have hf1 := hts (Cond.fieldLink RX13 1 "RunmergeOfficeModel" "thrown" "I") (by decide +kernel)
  have hiX13 : ∀ w ∈ u_ws RX13 TX13 14, w ∈ wsX13_passes := by decide +kernel
  refine lv_aload_n hx hb dX13_passes_0 rfl (lv_at hl 0 rfl) ?_
  refine lv_iload_n hx hb dX13_passes_1 rfl (lv_at hl 1 rfl) ?_
  refine lv_if_ne (tgt := 9) hx hb dX13_passes_2 (by decide) (fun c_1 => ?_) (fun c_1 => ?_)
  · have hB_2 : (B1) = true := b2i_1 c_1
    refine lv_iload_n hx hb dX13_passes_9 rfl (lv_at hl 2 rfl) ?_
    refine lv_if_ne (tgt := 17) hx hb dX13_passes_10 (by decide) (fun c_3 => ?_) (fun c_3 => ?_)
    · have hB_4 : (B2) = true := b2i_1 c_3
      refine lv_iload_n hx hb dX13_passes_17 rfl (lv_at hl 3 rfl) ?_
      refine lv_if_ne (tgt := 25) hx hb dX13_passes_18 (by decide) (fun c_5 => ?_) (fun c_5 => ?_)
      · have hB_6 : (B3) = true := b2i_1 c_5
        refine lv_iconst (v := 0) hx hb dX13_passes_25 (by decide) ?_
        refine va_put (D := (dC, dI)) (ci := 15) (v := .int 0) (ty := .int) (C := RX13) (T := TX13) (N := 14) hx hb hts hiX13 tyX13 tyX13_ok nmX13 hown hK hP hD hS 0 rfl rfl 0 (by decide) hf1 (fun _ h9 => h9) rfl (by decide +kernel) rfl rfl (Nat.le_of_ble_eq_true rfl) dX13_passes_26 (fun H_7 L_8 hP hD hS => ?_)
        have hP : va_P (dC, dI) vwCl [((b 0), .inr (15, [.int 0, .ref (b 1), .ref (b 2), .int 0, .ref (b 3), .ref (b 4), .ref (b 5), .null, .ref (b 6), .int 0, .int 0, .int 0, .int 0, .int (-1)]))] H_7 := hP
        have hD : va_D A [((b 0), .inr (15, [.int 0, .ref (b 1), .ref (b 2), .int 0, .ref (b 3), .ref (b 4), .ref (b 5), .null, .ref (b 6), .int 0, .int 0, .int 0, .int 0, .int (-1)]))] := hD
        refine lv_aload_n hx hb dX13_passes_29 rfl (lv_at hl 0 rfl) ?_
        refine va_get (D := (dC, dI)) (ci := 15) (v := .int 0) (C := RX13) (T := TX13) (N := 14) hx hb hts hiX13 hown hK hP 0 rfl rfl 0 (by decide) hf1 (fun _ h9 => h9) rfl dX13_passes_30 ?_
        refine lv_if_ne (tgt := 40) hx hb dX13_passes_33 (by decide) (fun c_9 => absurd (by decide) c_9) (fun c_9 => ?_)
        refine lv_iconst (v := 1) hx hb dX13_passes_36 (by decide) ?_
        refine lv_goto (tgt := 41) hx hb dX13_passes_37 (by decide) ?_
        have hq9 : cd B1 B2 B3 = (0 : Int32) := by simp [cd, hB_2, hB_4, hB_6]
        have hP9 : va_P (dC, dI) vwCl [((b 0), .inr (15, [.int (cd B1 B2 B3), .ref (b 1), .ref (b 2), .int 0, .ref (b 3), .ref (b 4), .ref (b 5), .null, .ref (b 6), .int 0, .int 0, .int 0, .int 0, .int (-1)]))] H_7 := by rw [hq9]; exact hP
        have hD9 : va_D A [((b 0), .inr (15, [.int (cd B1 B2 B3), .ref (b 1), .ref (b 2), .int 0, .ref (b 3), .ref (b 4), .ref (b 5), .null, .ref (b 6), .int 0, .int 0, .int 0, .int 0, .int (-1)]))] := by rw [hq9]; exact hD
        exact W.zret (v := 1) hx hb hr rfl (fun t ht hW => ⟨⟨1, (), rfl, by simp [b2i, hB_2, hB_4, hB_6], ⟨P_at ht hP9, hD9⟩⟩, hS.F ht⟩) hS.2.2 dX13_passes_41
      · have hB_6 : (B3) = false := b2i_0 c_5
        refine lv_iconst (v := 3) hx hb dX13_passes_21 (by decide) ?_
        refine lv_goto (tgt := 26) hx hb dX13_passes_22 (by decide) ?_
        refine va_put (D := (dC, dI)) (ci := 15) (v := .int 3) (ty := .int) (C := RX13) (T := TX13) (N := 14) hx hb hts hiX13 tyX13 tyX13_ok nmX13 hown hK hP hD hS 0 rfl rfl 0 (by decide) hf1 (fun _ h9 => h9) rfl (by decide +kernel) rfl rfl (Nat.le_of_ble_eq_true rfl) dX13_passes_26 (fun H_10 L_11 hP hD hS => ?_)
        have hP : va_P (dC, dI) vwCl [((b 0), .inr (15, [.int 3, .ref (b 1), .ref (b 2), .int 0, .ref (b 3), .ref (b 4), .ref (b 5), .null, .ref (b 6), .int 0, .int 0, .int 0, .int 0, .int (-1)]))] H_10 := hP
        have hD : va_D A [((b 0), .inr (15, [.int 3, .ref (b 1), .ref (b 2), .int 0, .ref (b 3), .ref (b 4), .ref (b 5), .null, .ref (b 6), .int 0, .int 0, .int 0, .int 0, .int (-1)]))] := hD
        refine lv_aload_n hx hb dX13_passes_29 rfl (lv_at hl 0 rfl) ?_
        refine va_get (D := (dC, dI)) (ci := 15) (v := .int 3) (C := RX13) (T := TX13) (N := 14) hx hb hts hiX13 hown hK hP 0 rfl rfl 0 (by decide) hf1 (fun _ h9 => h9) rfl dX13_passes_30 ?_
        refine lv_if_ne (tgt := 40) hx hb dX13_passes_33 (by decide) (fun c_12 => ?_) (fun c_12 => absurd c_12 (by decide))
        refine lv_iconst (v := 0) hx hb dX13_passes_40 (by decide) ?_
        have hq9 : cd B1 B2 B3 = (3 : Int32) := by simp [cd, hB_2, hB_4, hB_6]
        have hP9 : va_P (dC, dI) vwCl [((b 0), .inr (15, [.int (cd B1 B2 B3), .ref (b 1), .ref (b 2), .int 0, .ref (b 3), .ref (b 4), .ref (b 5), .null, .ref (b 6), .int 0, .int 0, .int 0, .int 0, .int (-1)]))] H_10 := by rw [hq9]; exact hP
        have hD9 : va_D A [((b 0), .inr (15, [.int (cd B1 B2 B3), .ref (b 1), .ref (b 2), .int 0, .ref (b 3), .ref (b 4), .ref (b 5), .null, .ref (b 6), .int 0, .int 0, .int 0, .int 0, .int (-1)]))] := by rw [hq9]; exact hD
        exact W.zret (v := 0) hx hb hr rfl (fun t ht hW => ⟨⟨0, (), rfl, by simp [b2i, hB_2, hB_4, hB_6], ⟨P_at ht hP9, hD9⟩⟩, hS.F ht⟩) hS.2.2 dX13_passes_41
    · have hB_4 : (B2) = false := b2i_0 c_3
      refine lv_iconst (v := 2) hx hb dX13_passes_13 (by decide) ?_
      refine lv_goto (tgt := 26) hx hb dX13_passes_14 (by decide) ?_
      refine va_put (D := (dC, dI)) (ci := 15) (v := .int 2) (ty := .int) (C := RX13) (T := TX13) (N := 14) hx hb hts hiX13 tyX13 tyX13_ok nmX13 hown hK hP hD hS 0 rfl rfl 0 (by decide) hf1 (fun _ h9 => h9) rfl (by decide +kernel) rfl rfl (Nat.le_of_ble_eq_true rfl) dX13_passes_26 (fun H_13 L_14 hP hD hS => ?_)
      have hP : va_P (dC, dI) vwCl [((b 0), .inr (15, [.int 2, .ref (b 1), .ref (b 2), .int 0, .ref (b 3), .ref (b 4), .ref (b 5), .null, .ref (b 6), .int 0, .int 0, .int 0, .int 0, .int (-1)]))] H_13 := hP
      have hD : va_D A [((b 0), .inr (15, [.int 2, .ref (b 1), .ref (b 2), .int 0, .ref (b 3), .ref (b 4), .ref (b 5), .null, .ref (b 6), .int 0, .int 0, .int 0, .int 0, .int (-1)]))] := hD
      refine lv_aload_n hx hb dX13_passes_29 rfl (lv_at hl 0 rfl) ?_
      refine va_get (D := (dC, dI)) (ci := 15) (v := .int 2) (C := RX13) (T := TX13) (N := 14) hx hb hts hiX13 hown hK hP 0 rfl rfl 0 (by decide) hf1 (fun _ h9 => h9) rfl dX13_passes_30 ?_
      refine lv_if_ne (tgt := 40) hx hb dX13_passes_33 (by decide) (fun c_15 => ?_) (fun c_15 => absurd c_15 (by decide))
      refine lv_iconst (v := 0) hx hb dX13_passes_40 (by decide) ?_
      have hq9 : cd B1 B2 B3 = (2 : Int32) := by simp [cd, hB_2, hB_4]
      have hP9 : va_P (dC, dI) vwCl [((b 0), .inr (15, [.int (cd B1 B2 B3), .ref (b 1), .ref (b 2), .int 0, .ref (b 3), .ref (b 4), .ref (b 5), .null, .ref (b 6), .int 0, .int 0, .int 0, .int 0, .int (-1)]))] H_13 := by rw [hq9]; exact hP
      have hD9 : va_D A [((b 0), .inr (15, [.int (cd B1 B2 B3), .ref (b 1), .ref (b 2), .int 0, .ref (b 3), .ref (b 4), .ref (b 5), .null, .ref (b 6), .int 0, .int 0, .int 0, .int 0, .int (-1)]))] := by rw [hq9]; exact hD
      exact W.zret (v := 0) hx hb hr rfl (fun t ht hW => ⟨⟨0, (), rfl, by simp [b2i, hB_2, hB_4], ⟨P_at ht hP9, hD9⟩⟩, hS.F ht⟩) hS.2.2 dX13_passes_41
  · have hB_2 : (B1) = false := b2i_0 c_1
    refine lv_iconst (v := 1) hx hb dX13_passes_5 (by decide) ?_
    refine lv_goto (tgt := 26) hx hb dX13_passes_6 (by decide) ?_
    refine va_put (D := (dC, dI)) (ci := 15) (v := .int 1) (ty := .int) (C := RX13) (T := TX13) (N := 14) hx hb hts hiX13 tyX13 tyX13_ok nmX13 hown hK hP hD hS 0 rfl rfl 0 (by decide) hf1 (fun _ h9 => h9) rfl (by decide +kernel) rfl rfl (Nat.le_of_ble_eq_true rfl) dX13_passes_26 (fun H_16 L_17 hP hD hS => ?_)
    have hP : va_P (dC, dI) vwCl [((b 0), .inr (15, [.int 1, .ref (b 1), .ref (b 2), .int 0, .ref (b 3), .ref (b 4), .ref (b 5), .null, .ref (b 6), .int 0, .int 0, .int 0, .int 0, .int (-1)]))] H_16 := hP
    have hD : va_D A [((b 0), .inr (15, [.int 1, .ref (b 1), .ref (b 2), .int 0, .ref (b 3), .ref (b 4), .ref (b 5), .null, .ref (b 6), .int 0, .int 0, .int 0, .int 0, .int (-1)]))] := hD
    refine lv_aload_n hx hb dX13_passes_29 rfl (lv_at hl 0 rfl) ?_
    refine va_get (D := (dC, dI)) (ci := 15) (v := .int 1) (C := RX13) (T := TX13) (N := 14) hx hb hts hiX13 hown hK hP 0 rfl rfl 0 (by decide) hf1 (fun _ h9 => h9) rfl dX13_passes_30 ?_
    refine lv_if_ne (tgt := 40) hx hb dX13_passes_33 (by decide) (fun c_18 => ?_) (fun c_18 => absurd c_18 (by decide))
    refine lv_iconst (v := 0) hx hb dX13_passes_40 (by decide) ?_
    have hq9 : cd B1 B2 B3 = (1 : Int32) := by simp [cd, hB_2]
    have hP9 : va_P (dC, dI) vwCl [((b 0), .inr (15, [.int (cd B1 B2 B3), .ref (b 1), .ref (b 2), .int 0, .ref (b 3), .ref (b 4), .ref (b 5), .null, .ref (b 6), .int 0, .int 0, .int 0, .int 0, .int (-1)]))] H_16 := by rw [hq9]; exact hP
    have hD9 : va_D A [((b 0), .inr (15, [.int (cd B1 B2 B3), .ref (b 1), .ref (b 2), .int 0, .ref (b 3), .ref (b 4), .ref (b 5), .null, .ref (b 6), .int 0, .int 0, .int 0, .int 0, .int (-1)]))] := by rw [hq9]; exact hD
    exact W.zret (v := 0) hx hb hr rfl (fun t ht hW => ⟨⟨0, (), rfl, by simp [b2i, hB_2], ⟨P_at ht hP9, hD9⟩⟩, hS.F ht⟩) hS.2.2 dX13_passes_41
set_option maxHeartbeats 4000000 in
set_option maxRecDepth 100000 in
theorem c_X13_takes (l : Launch) (dC : Nat → ClassId) (dI : Nat → Nat → Nat) (g : Nat → ClassId) (Wd : va_W) (b : Nat → Nat) (r1 : Nat → Nat) (r2 : Nat → Nat) (th : Int32) (ep : Int32) (k0 : Nat) (w0 : Wd[k0]? = some ((b 0), .inr (15, [.int th, .ref (b 1), .ref (b 2), .int 0, .ref (b 3), .ref (b 4), .ref (b 5), .null, .ref (b 6), .int 0, .int 0, .int 0, .int 0, .int ep]))) (sz : Nat) : Met l yX13_takes wsX13_takes ({ frames := 0, cells := 0, slots := 0, locals := 0 }) (va_Pc [.ref (b 0)] (PG (dC, dI) g Wd sz)) (va_Qv (fun (_ : Unit) => True) (fun (_ : Unit) t => va_P (dC, dI) vwCl Wd t.heap) (va_A Wd sz)) 0 0 (va_A Wd sz) := by
  refine Met.ofW (cc := cX13_takes) (maxL := 2) (ret := none) (by decide) rfl ?_
  intro p e s m args below meth c s₁ B hml hv
  obtain ⟨rfl, hsz, hP, hK, hD0, hG⟩ := hv
  have hx := B.exec
  have hb := B.bytes
  have hr := B.returns
  have hts := atoms_spec (ws := wsX13_takes) B.pre
  have hown : s.vm.findClass RX13 = some m.cls := findClass_of_methodNamed B.named
  have hlocks := B.notSynchronized
  subst hsz
  have hD := hD0.self (sz := s.heap.size)
  generalize hAe : va_A Wd s.heap.size = A at hD hG ⊢
  have hA : ∀ q : Nat, s.heap.size ≤ q → A q := fun q h => by rw [← hAe]; exact Or.inr h
  have hS : va_S A s.heap s.heap [] := va_S.rf
  have hl := lv_entry ([.ref (b 0)]) (n := 2) (Nat.le_of_ble_eq_true rfl)
  rw [lg_entry_eq]
  generalize (lg_sl ([.ref (b 0)]) ++ List.replicate (2 - (lg_sl ([.ref (b 0)])).length) Slot.unset).toArray = ls at hl ⊢
  have hl : lv_has ls 2 [(0, .ref (b 0))] := hl
  have hf242 := hts (Cond.fieldLink RX13 242 "RunmergeOfficeModel" "end" "I") (by decide +kernel)
  have hiX13 : ∀ w ∈ u_ws RX13 TX13 14, w ∈ wsX13_takes := by decide +kernel
  have hf245 := hts (Cond.fieldLink RX13 245 "RunmergeOfficeModel" "begin" "I") (by decide +kernel)
  have hf218 := hts (Cond.fieldLink RX13 218 "RunmergeOfficeModel" "textMany" "I") (by decide +kernel)
  refine lv_aload_n hx hb dX13_takes_0 rfl (lv_at hl 0 rfl) ?_
  refine lv_aload_n hx hb dX13_takes_1 rfl (lv_at hl 0 rfl) ?_
  refine va_get (D := (dC, dI)) (ci := 15) (v := .int 0) (C := RX13) (T := TX13) (N := 14) hx hb hts hiX13 hown hK hP k0 w0 rfl 11 (by decide) hf242 (fun _ h9 => h9) rfl dX13_takes_2 ?_
  refine va_putS (D := (dC, dI)) (ci := 15) (v := .int 0) (ty := .int) (C := RX13) (T := TX13) (N := 14) hx hb hts hiX13 tyX13 tyX13_ok nmX13 hown hK hP hD hS k0 w0 rfl 10 (by decide) hf245 (fun _ h9 => h9) rfl (by decide +kernel) rfl rfl (Nat.le_of_ble_eq_true rfl) rfl dX13_takes_5 (fun H_1 L_2 hP hS => ?_)
  refine lv_aload_n hx hb dX13_takes_8 rfl (lv_at hl 0 rfl) ?_
  refine va_get (D := (dC, dI)) (ci := 15) (v := .int 0) (C := RX13) (T := TX13) (N := 14) hx hb hts hiX13 hown hK hP k0 w0 rfl 10 (by decide) hf245 (fun _ h9 => h9) rfl dX13_takes_9 ?_
  refine lv_aload_n hx hb dX13_takes_12 rfl (lv_at hl 0 rfl) ?_
  refine va_get (D := (dC, dI)) (ci := 15) (v := .int 0) (C := RX13) (T := TX13) (N := 14) hx hb hts hiX13 hown hK hP k0 w0 rfl 9 (by decide) hf218 (fun _ h9 => h9) rfl dX13_takes_13 ?_
  refine lv_icmp_ge (tgt := 46) hx hb dX13_takes_16 (by decide) (fun c_3 => ?_) (fun c_3 => absurd (by decide) c_3)
  refine lv_aload_n hx hb dX13_takes_46 rfl (lv_at hl 0 rfl) ?_
  refine lv_aload_n hx hb dX13_takes_47 rfl (lv_at hl 0 rfl) ?_
  refine va_get (D := (dC, dI)) (ci := 15) (v := .int 0) (C := RX13) (T := TX13) (N := 14) hx hb hts hiX13 hown hK hP k0 w0 rfl 10 (by decide) hf245 (fun _ h9 => h9) rfl dX13_takes_48 ?_
  refine va_putS (D := (dC, dI)) (ci := 15) (v := .int 0) (ty := .int) (C := RX13) (T := TX13) (N := 14) hx hb hts hiX13 tyX13 tyX13_ok nmX13 hown hK hP hD hS k0 w0 rfl 11 (by decide) hf242 (fun _ h9 => h9) rfl (by decide +kernel) rfl rfl (Nat.le_of_ble_eq_true rfl) rfl dX13_takes_51 (fun H_4 L_5 hP hS => ?_)
  refine lv_aload_n hx hb dX13_takes_54 rfl (lv_at hl 0 rfl) ?_
  refine va_get (D := (dC, dI)) (ci := 15) (v := .int 0) (C := RX13) (T := TX13) (N := 14) hx hb hts hiX13 hown hK hP k0 w0 rfl 10 (by decide) hf245 (fun _ h9 => h9) rfl dX13_takes_55 ?_
  refine lv_aload_n hx hb dX13_takes_58 rfl (lv_at hl 0 rfl) ?_
  refine va_get (D := (dC, dI)) (ci := 15) (v := .int 0) (C := RX13) (T := TX13) (N := 14) hx hb hts hiX13 hown hK hP k0 w0 rfl 9 (by decide) hf218 (fun _ h9 => h9) rfl dX13_takes_59 ?_
  refine lv_icmp_ge (tgt := 172) hx hb dX13_takes_62 (by decide) (fun c_6 => ?_) (fun c_6 => absurd (by decide) c_6)
  refine lv_aload_n hx hb dX13_takes_172 rfl (lv_at hl 0 rfl) ?_
  refine va_get (D := (dC, dI)) (ci := 15) (v := .int 0) (C := RX13) (T := TX13) (N := 14) hx hb hts hiX13 hown hK hP k0 w0 rfl 10 (by decide) hf245 (fun _ h9 => h9) rfl dX13_takes_173 ?_
  refine lv_aload_n hx hb dX13_takes_176 rfl (lv_at hl 0 rfl) ?_
  refine va_get (D := (dC, dI)) (ci := 15) (v := .int 0) (C := RX13) (T := TX13) (N := 14) hx hb hts hiX13 hown hK hP k0 w0 rfl 9 (by decide) hf218 (fun _ h9 => h9) rfl dX13_takes_177 ?_
  refine lv_icmp_ge (tgt := 193) hx hb dX13_takes_180 (by decide) (fun c_7 => ?_) (fun c_7 => absurd (by decide) c_7)
  exact W.vret hx hb hr (fun t ht hW => ⟨⟨(), rfl, trivial, P_at ht hP⟩, hS.F ht⟩) hS.2.2 dX13_takes_193
set_option maxHeartbeats 4000000 in
set_option maxRecDepth 100000 in
theorem c_X13_reads (l : Launch) (dC : Nat → ClassId) (dI : Nat → Nat → Nat) (g : Nat → ClassId) (b : Nat → Nat) (r1 : Nat → Nat) (r2 : Nat → Nat) (th : Int32) (ep : Int32) (dn : Int32) (sz : Nat) : Met l yX13_reads wsX13_reads ({ frames := 1, cells := 0, slots := 0, locals := 21 }) (va_Pc [.ref (b 0), .int dn] (PG (dC, dI) g [((b 0), .inr (15, [.int th, .ref (b 1), .ref (b 2), .int 0, .ref (b 3), .ref (b 4), .ref (b 5), .null, .ref (b 6), .int 0, .int 0, .int 0, .int 0, .int ep]))] sz)) (va_Qi (fun (r : Int32) (_ : Unit) => r = 0) (fun (_ : Unit) t9 => va_P (dC, dI) vwCl [((b 0), .inr (15, [.int th, .ref (b 1), .ref (b 2), .int 0, .ref (b 3), .ref (b 4), .ref (b 5), .null, .ref (b 6), .int 0, .int 0, .int 0, .int 0, .int (-1)]))] t9.heap ∧ va_D (va_A [((b 0), .inr (15, [.int th, .ref (b 1), .ref (b 2), .int 0, .ref (b 3), .ref (b 4), .ref (b 5), .null, .ref (b 6), .int 0, .int 0, .int 0, .int 0, .int ep]))] sz) [((b 0), .inr (15, [.int th, .ref (b 1), .ref (b 2), .int 0, .ref (b 3), .ref (b 4), .ref (b 5), .null, .ref (b 6), .int 0, .int 0, .int 0, .int 0, .int (-1)]))]) (va_A [((b 0), .inr (15, [.int th, .ref (b 1), .ref (b 2), .int 0, .ref (b 3), .ref (b 4), .ref (b 5), .null, .ref (b 6), .int 0, .int 0, .int 0, .int 0, .int ep]))] sz)) 0 0 (va_A [((b 0), .inr (15, [.int th, .ref (b 1), .ref (b 2), .int 0, .ref (b 3), .ref (b 4), .ref (b 5), .null, .ref (b 6), .int 0, .int 0, .int 0, .int 0, .int ep]))] sz) := by
  refine Met.ofW (cc := cX13_reads) (maxL := 3) (ret := (some .int)) (by decide) rfl ?_
  intro p e s m args below meth c s₁ B hml hv
  obtain ⟨rfl, hsz, hP, hK, hD0, hG⟩ := hv
  have hx := B.exec
  have hb := B.bytes
  have hr := B.returns
  have hts := atoms_spec (ws := wsX13_reads) B.pre
  have hown : s.vm.findClass RX13 = some m.cls := findClass_of_methodNamed B.named
  have hlocks := B.notSynchronized
  subst hsz
  have hD := hD0.self (sz := s.heap.size)
  generalize hAe : va_A [((b 0), .inr (15, [.int th, .ref (b 1), .ref (b 2), .int 0, .ref (b 3), .ref (b 4), .ref (b 5), .null, .ref (b 6), .int 0, .int 0, .int 0, .int 0, .int ep]))] s.heap.size = A at hD hG ⊢
  have hA : ∀ q : Nat, s.heap.size ≤ q → A q := fun q h => by rw [← hAe]; exact Or.inr h
  have hS : va_S A s.heap s.heap [] := va_S.rf
  have hl := lv_entry ([.ref (b 0), .int dn]) (n := 3) (Nat.le_of_ble_eq_true rfl)
  rw [lg_entry_eq]
  generalize (lg_sl ([.ref (b 0), .int dn]) ++ List.replicate (3 - (lg_sl ([.ref (b 0), .int dn])).length) Slot.unset).toArray = ls at hl ⊢
  have hl : lv_has ls 3 [(0, .ref (b 0)), (1, .int dn)] := hl
  have hf236 := hts (Cond.fieldLink RX13 236 "RunmergeOfficeModel" "errorKind" "I") (by decide +kernel)
  have hiX13 : ∀ w ∈ u_ws RX13 TX13 14, w ∈ wsX13_reads := by decide +kernel
  have hf239 := hts (Cond.fieldLink RX13 239 "RunmergeOfficeModel" "errorPlace" "I") (by decide +kernel)
  have hf242 := hts (Cond.fieldLink RX13 242 "RunmergeOfficeModel" "end" "I") (by decide +kernel)
  have hf245 := hts (Cond.fieldLink RX13 245 "RunmergeOfficeModel" "begin" "I") (by decide +kernel)
  have hf218 := hts (Cond.fieldLink RX13 218 "RunmergeOfficeModel" "textMany" "I") (by decide +kernel)
  refine lv_aload_n hx hb dX13_reads_0 rfl (lv_at hl 0 rfl) ?_
  refine lv_iconst (v := 0) hx hb dX13_reads_1 (by decide) ?_
  refine va_putS (D := (dC, dI)) (ci := 15) (v := .int 0) (ty := .int) (C := RX13) (T := TX13) (N := 14) hx hb hts hiX13 tyX13 tyX13_ok nmX13 hown hK hP hD hS 0 rfl rfl 12 (by decide) hf236 (fun _ h9 => h9) rfl (by decide +kernel) rfl rfl (Nat.le_of_ble_eq_true rfl) rfl dX13_reads_2 (fun H_1 L_2 hP hS => ?_)
  refine lv_aload_n hx hb dX13_reads_5 rfl (lv_at hl 0 rfl) ?_
  refine lv_iconst (v := (-1)) hx hb dX13_reads_6 (by decide) ?_
  refine va_put (D := (dC, dI)) (ci := 15) (v := .int (-1)) (ty := .int) (C := RX13) (T := TX13) (N := 14) hx hb hts hiX13 tyX13 tyX13_ok nmX13 hown hK hP hD hS 0 rfl rfl 13 (by decide) hf239 (fun _ h9 => h9) rfl (by decide +kernel) rfl rfl (Nat.le_of_ble_eq_true rfl) dX13_reads_7 (fun H_3 L_4 hP hD hS => ?_)
  have hP : va_P (dC, dI) vwCl [((b 0), .inr (15, [.int th, .ref (b 1), .ref (b 2), .int 0, .ref (b 3), .ref (b 4), .ref (b 5), .null, .ref (b 6), .int 0, .int 0, .int 0, .int 0, .int (-1)]))] H_3 := hP
  have hD : va_D A [((b 0), .inr (15, [.int th, .ref (b 1), .ref (b 2), .int 0, .ref (b 3), .ref (b 4), .ref (b 5), .null, .ref (b 6), .int 0, .int 0, .int 0, .int 0, .int (-1)]))] := hD
  refine lv_aload_n hx hb dX13_reads_10 rfl (lv_at hl 0 rfl) ?_
  refine lv_iconst (v := 0) hx hb dX13_reads_11 (by decide) ?_
  refine va_putS (D := (dC, dI)) (ci := 15) (v := .int 0) (ty := .int) (C := RX13) (T := TX13) (N := 14) hx hb hts hiX13 tyX13 tyX13_ok nmX13 hown hK hP hD hS 0 rfl rfl 11 (by decide) hf242 (fun _ h9 => h9) rfl (by decide +kernel) rfl rfl (Nat.le_of_ble_eq_true rfl) rfl dX13_reads_12 (fun H_5 L_6 hP hS => ?_)
  refine lv_iconst (v := 0) hx hb dX13_reads_15 (by decide) ?_
  refine lv_istore_n (lv' := [(2, .int 0), (0, .ref (b 0)), (1, .int dn)]) hx hb dX13_reads_16 rfl hl (by decide) rfl (fun ls hl => ?_)
  refine lv_aload_n hx hb dX13_reads_17 rfl (lv_at hl 1 rfl) ?_
  refine va_callv (va_runV (As := []) (rest := []) ⟨hx, hb, hml, hown, hts⟩ (c_X13_takes l dC dI g [((b 0), .inr (15, [.int th, .ref (b 1), .ref (b 2), .int 0, .ref (b 3), .ref (b 4), .ref (b 5), .null, .ref (b 6), .int 0, .int 0, .int 0, .int 0, .int (-1)]))] b r1 r2 th (-1) 0 rfl  H_5.size) (cwV 0 hts gX13_reads_X13_takes rfl rfl rfl (by decide +kernel) ⟨Nat.le_of_ble_eq_true rfl, Nat.le_of_ble_eq_true rfl⟩) ⟨PG_blind, va_recv hK hP (ci := 15) (q0 := 0) rfl rfl, PG_call hK hG hS hP hD (A_all hD hA hS.1)⟩ rfl rfl hl.1 rfl (lv_room (Nat.le_of_ble_eq_true rfl)) dX13_reads_18 ⟨Nat.le_of_ble_eq_true rfl, Nat.le_of_ble_eq_true rfl⟩) hS (fun q _ h => (A_all hD hA hS.1) q h) (A_all hD hA hS.1) (fun u_7 t_7 H_7 L_7 ht_7 hvm_7 hw_7 hB_7 hz_7 hk_7 hS => ?_)
  replace hB_7 := (show va_P (dC, dI) vwCl [((b 0), .inr (15, [.int th, .ref (b 1), .ref (b 2), .int 0, .ref (b 3), .ref (b 4), .ref (b 5), .null, .ref (b 6), .int 0, .int 0, .int 0, .int 0, .int (-1)]))] t_7.heap from hB_7)
  rw [ht_7] at hB_7
  have hP := hB_7
  refine lv_aload_n hx hb dX13_reads_21 rfl (lv_at hl 1 rfl) ?_
  refine va_get (D := (dC, dI)) (ci := 15) (v := .int 0) (C := RX13) (T := TX13) (N := 14) hx hb hts hiX13 hown hK hP 0 rfl rfl 12 (by decide) hf236 (fun _ h9 => h9) rfl dX13_reads_22 ?_
  refine lv_if_ne (tgt := 61) hx hb dX13_reads_25 (by decide) (fun c_8 => absurd (by decide) c_8) (fun c_8 => ?_)
  refine lv_aload_n hx hb dX13_reads_28 rfl (lv_at hl 1 rfl) ?_
  refine va_get (D := (dC, dI)) (ci := 15) (v := .int 0) (C := RX13) (T := TX13) (N := 14) hx hb hts hiX13 hown hK hP 0 rfl rfl 10 (by decide) hf245 (fun _ h9 => h9) rfl dX13_reads_29 ?_
  refine lv_aload_n hx hb dX13_reads_32 rfl (lv_at hl 1 rfl) ?_
  refine va_get (D := (dC, dI)) (ci := 15) (v := .int 0) (C := RX13) (T := TX13) (N := 14) hx hb hts hiX13 hown hK hP 0 rfl rfl 9 (by decide) hf218 (fun _ h9 => h9) rfl dX13_reads_33 ?_
  refine lv_icmp_ge (tgt := 61) hx hb dX13_reads_36 (by decide) (fun c_9 => ?_) (fun c_9 => absurd (by decide) c_9)
  refine lv_iload_n hx hb dX13_reads_61 rfl (lv_at hl 0 rfl) ?_
  have hP9 := hP.sub (ws' := [((b 0), .inr (15, [.int th, .ref (b 1), .ref (b 2), .int 0, .ref (b 3), .ref (b 4), .ref (b 5), .null, .ref (b 6), .int 0, .int 0, .int 0, .int 0, .int (-1)]))]) [0] rfl
  have hD9 := hD.sub (ws' := [((b 0), .inr (15, [.int th, .ref (b 1), .ref (b 2), .int 0, .ref (b 3), .ref (b 4), .ref (b 5), .null, .ref (b 6), .int 0, .int 0, .int 0, .int 0, .int (-1)]))]) [0] (by decide) rfl
  exact W.iret (v := 0) hx hb hr (fun t ht hW => ⟨⟨0, (), rfl, rfl, ⟨P_at ht hP9, hD9⟩⟩, hS.F ht⟩) hS.2.2 dX13_reads_62
set_option maxHeartbeats 4000000 in
set_option maxRecDepth 100000 in
theorem c_X13_tries (l : Launch) (dC : Nat → ClassId) (dI : Nat → Nat → Nat) (g : Nat → ClassId) (b : Nat → Nat) (r1 : Nat → Nat) (r2 : Nat → Nat) (th : Int32) (ep : Int32) (sz : Nat) : Met l yX13_tries wsX13_tries ({ frames := 2, cells := 0, slots := 0, locals := 43 }) (va_Pc [.ref (b 0)] (PG (dC, dI) g [((b 0), .inr (15, [.int th, .ref (b 1), .ref (b 2), .int 0, .ref (b 3), .ref (b 4), .ref (b 5), .null, .ref (b 6), .int 0, .int 0, .int 0, .int 0, .int ep])), ((b 3), .inl (g 4, 8, .inr (.inr (.inr (.inr (fun i => if i < 8 then some (r1 i) else none)))))), ((b 4), .inl (g 4, 8, .inr (.inr (.inr (.inr (fun i => if i < 8 then some (r2 i) else none)))))), ((r1 0), .inl (g 0, 0, .inl (fun _ => 0))), ((r1 1), .inl (g 0, 0, .inl (fun _ => 0))), ((r1 2), .inl (g 0, 0, .inl (fun _ => 0))), ((r1 3), .inl (g 0, 0, .inl (fun _ => 0))), ((r1 4), .inl (g 0, 0, .inl (fun _ => 0))), ((r1 5), .inl (g 0, 0, .inl (fun _ => 0))), ((r1 6), .inl (g 0, 0, .inl (fun _ => 0))), ((r1 7), .inl (g 0, 0, .inl (fun _ => 0)))] sz)) (va_Qi (fun (r : Int32) (_ : Unit) => r = 0) (fun (_ : Unit) t9 => va_P (dC, dI) vwCl [((b 0), .inr (15, [.int th, .ref (b 1), .ref (b 2), .int 0, .ref (b 3), .ref (b 4), .ref (b 5), .null, .ref (b 6), .int 0, .int 0, .int 0, .int 0, .int (-1)])), ((b 3), .inl (g 4, 8, .inr (.inr (.inr (.inr (fun i => if i < 8 then some (r1 i) else none)))))), ((b 4), .inl (g 4, 8, .inr (.inr (.inr (.inr (va_up (va_up (va_up (va_up (va_up (va_up (va_up (va_up (fun i => if i < 8 then some (r2 i) else none) (0 : Int32).toNatClampNeg (some (r1 0))) (1 : Int32).toNatClampNeg (some (r1 1))) (2 : Int32).toNatClampNeg (some (r1 2))) (3 : Int32).toNatClampNeg (some (r1 3))) (4 : Int32).toNatClampNeg (some (r1 4))) (5 : Int32).toNatClampNeg (some (r1 5))) (6 : Int32).toNatClampNeg (some (r1 6))) (7 : Int32).toNatClampNeg (some (r1 7)))))))), ((r1 0), .inl (g 0, 0, .inl (fun _ => 0))), ((r1 1), .inl (g 0, 0, .inl (fun _ => 0))), ((r1 2), .inl (g 0, 0, .inl (fun _ => 0))), ((r1 3), .inl (g 0, 0, .inl (fun _ => 0))), ((r1 4), .inl (g 0, 0, .inl (fun _ => 0))), ((r1 5), .inl (g 0, 0, .inl (fun _ => 0))), ((r1 6), .inl (g 0, 0, .inl (fun _ => 0))), ((r1 7), .inl (g 0, 0, .inl (fun _ => 0)))] t9.heap ∧ va_D (va_A [((b 0), .inr (15, [.int th, .ref (b 1), .ref (b 2), .int 0, .ref (b 3), .ref (b 4), .ref (b 5), .null, .ref (b 6), .int 0, .int 0, .int 0, .int 0, .int ep])), ((b 3), .inl (g 4, 8, .inr (.inr (.inr (.inr (fun i => if i < 8 then some (r1 i) else none)))))), ((b 4), .inl (g 4, 8, .inr (.inr (.inr (.inr (fun i => if i < 8 then some (r2 i) else none)))))), ((r1 0), .inl (g 0, 0, .inl (fun _ => 0))), ((r1 1), .inl (g 0, 0, .inl (fun _ => 0))), ((r1 2), .inl (g 0, 0, .inl (fun _ => 0))), ((r1 3), .inl (g 0, 0, .inl (fun _ => 0))), ((r1 4), .inl (g 0, 0, .inl (fun _ => 0))), ((r1 5), .inl (g 0, 0, .inl (fun _ => 0))), ((r1 6), .inl (g 0, 0, .inl (fun _ => 0))), ((r1 7), .inl (g 0, 0, .inl (fun _ => 0)))] sz) [((b 0), .inr (15, [.int th, .ref (b 1), .ref (b 2), .int 0, .ref (b 3), .ref (b 4), .ref (b 5), .null, .ref (b 6), .int 0, .int 0, .int 0, .int 0, .int (-1)])), ((b 3), .inl (g 4, 8, .inr (.inr (.inr (.inr (fun i => if i < 8 then some (r1 i) else none)))))), ((b 4), .inl (g 4, 8, .inr (.inr (.inr (.inr (va_up (va_up (va_up (va_up (va_up (va_up (va_up (va_up (fun i => if i < 8 then some (r2 i) else none) (0 : Int32).toNatClampNeg (some (r1 0))) (1 : Int32).toNatClampNeg (some (r1 1))) (2 : Int32).toNatClampNeg (some (r1 2))) (3 : Int32).toNatClampNeg (some (r1 3))) (4 : Int32).toNatClampNeg (some (r1 4))) (5 : Int32).toNatClampNeg (some (r1 5))) (6 : Int32).toNatClampNeg (some (r1 6))) (7 : Int32).toNatClampNeg (some (r1 7)))))))), ((r1 0), .inl (g 0, 0, .inl (fun _ => 0))), ((r1 1), .inl (g 0, 0, .inl (fun _ => 0))), ((r1 2), .inl (g 0, 0, .inl (fun _ => 0))), ((r1 3), .inl (g 0, 0, .inl (fun _ => 0))), ((r1 4), .inl (g 0, 0, .inl (fun _ => 0))), ((r1 5), .inl (g 0, 0, .inl (fun _ => 0))), ((r1 6), .inl (g 0, 0, .inl (fun _ => 0))), ((r1 7), .inl (g 0, 0, .inl (fun _ => 0)))]) (va_A [((b 0), .inr (15, [.int th, .ref (b 1), .ref (b 2), .int 0, .ref (b 3), .ref (b 4), .ref (b 5), .null, .ref (b 6), .int 0, .int 0, .int 0, .int 0, .int ep])), ((b 3), .inl (g 4, 8, .inr (.inr (.inr (.inr (fun i => if i < 8 then some (r1 i) else none)))))), ((b 4), .inl (g 4, 8, .inr (.inr (.inr (.inr (fun i => if i < 8 then some (r2 i) else none)))))), ((r1 0), .inl (g 0, 0, .inl (fun _ => 0))), ((r1 1), .inl (g 0, 0, .inl (fun _ => 0))), ((r1 2), .inl (g 0, 0, .inl (fun _ => 0))), ((r1 3), .inl (g 0, 0, .inl (fun _ => 0))), ((r1 4), .inl (g 0, 0, .inl (fun _ => 0))), ((r1 5), .inl (g 0, 0, .inl (fun _ => 0))), ((r1 6), .inl (g 0, 0, .inl (fun _ => 0))), ((r1 7), .inl (g 0, 0, .inl (fun _ => 0)))] sz)) 0 0 (va_A [((b 0), .inr (15, [.int th, .ref (b 1), .ref (b 2), .int 0, .ref (b 3), .ref (b 4), .ref (b 5), .null, .ref (b 6), .int 0, .int 0, .int 0, .int 0, .int ep])), ((b 3), .inl (g 4, 8, .inr (.inr (.inr (.inr (fun i => if i < 8 then some (r1 i) else none)))))), ((b 4), .inl (g 4, 8, .inr (.inr (.inr (.inr (fun i => if i < 8 then some (r2 i) else none)))))), ((r1 0), .inl (g 0, 0, .inl (fun _ => 0))), ((r1 1), .inl (g 0, 0, .inl (fun _ => 0))), ((r1 2), .inl (g 0, 0, .inl (fun _ => 0))), ((r1 3), .inl (g 0, 0, .inl (fun _ => 0))), ((r1 4), .inl (g 0, 0, .inl (fun _ => 0))), ((r1 5), .inl (g 0, 0, .inl (fun _ => 0))), ((r1 6), .inl (g 0, 0, .inl (fun _ => 0))), ((r1 7), .inl (g 0, 0, .inl (fun _ => 0)))] sz) := by
  refine Met.ofW (cc := cX13_tries) (maxL := 3) (ret := (some .int)) (by decide) rfl ?_
  intro p e s m args below meth c s₁ B hml hv
  obtain ⟨rfl, hsz, hP, hK, hD0, hG⟩ := hv
  have hx := B.exec
  have hb := B.bytes
  have hr := B.returns
  have hts := atoms_spec (ws := wsX13_tries) B.pre
  have hown : s.vm.findClass RX13 = some m.cls := findClass_of_methodNamed B.named
  have hlocks := B.notSynchronized
  subst hsz
  have hD := hD0.self (sz := s.heap.size)
  generalize hAe : va_A [((b 0), .inr (15, [.int th, .ref (b 1), .ref (b 2), .int 0, .ref (b 3), .ref (b 4), .ref (b 5), .null, .ref (b 6), .int 0, .int 0, .int 0, .int 0, .int ep])), ((b 3), .inl (g 4, 8, .inr (.inr (.inr (.inr (fun i => if i < 8 then some (r1 i) else none)))))), ((b 4), .inl (g 4, 8, .inr (.inr (.inr (.inr (fun i => if i < 8 then some (r2 i) else none)))))), ((r1 0), .inl (g 0, 0, .inl (fun _ => 0))), ((r1 1), .inl (g 0, 0, .inl (fun _ => 0))), ((r1 2), .inl (g 0, 0, .inl (fun _ => 0))), ((r1 3), .inl (g 0, 0, .inl (fun _ => 0))), ((r1 4), .inl (g 0, 0, .inl (fun _ => 0))), ((r1 5), .inl (g 0, 0, .inl (fun _ => 0))), ((r1 6), .inl (g 0, 0, .inl (fun _ => 0))), ((r1 7), .inl (g 0, 0, .inl (fun _ => 0)))] s.heap.size = A at hD hG ⊢
  have hA : ∀ q : Nat, s.heap.size ≤ q → A q := fun q h => by rw [← hAe]; exact Or.inr h
  have hS : va_S A s.heap s.heap [] := va_S.rf
  have hl := lv_entry ([.ref (b 0)]) (n := 3) (Nat.le_of_ble_eq_true rfl)
  rw [lg_entry_eq]
  generalize (lg_sl ([.ref (b 0)]) ++ List.replicate (3 - (lg_sl ([.ref (b 0)])).length) Slot.unset).toArray = ls at hl ⊢
  have hl : lv_has ls 3 [(0, .ref (b 0))] := hl
  have hf236 := hts (Cond.fieldLink RX13 236 "RunmergeOfficeModel" "errorKind" "I") (by decide +kernel)
  have hiX13 : ∀ w ∈ u_ws RX13 TX13 14, w ∈ wsX13_tries := by decide +kernel
  have hf32 := hts (Cond.fieldLink RX13 32 "RunmergeOfficeModel" "trial" "[[I") (by decide +kernel)
  have hf29 := hts (Cond.fieldLink RX13 29 "RunmergeOfficeModel" "tapes" "[[I") (by decide +kernel)
  refine lv_aload_n hx hb dX13_tries_0 rfl (lv_at hl 0 rfl) ?_
  refine lv_iconst (v := 0) hx hb dX13_tries_1 (by decide) ?_
  have hPc := hP.sub (ws' := [((b 0), .inr (15, [.int th, .ref (b 1), .ref (b 2), .int 0, .ref (b 3), .ref (b 4), .ref (b 5), .null, .ref (b 6), .int 0, .int 0, .int 0, .int 0, .int ep]))]) [0] rfl
  have hDc := hD.sub (ws' := [((b 0), .inr (15, [.int th, .ref (b 1), .ref (b 2), .int 0, .ref (b 3), .ref (b 4), .ref (b 5), .null, .ref (b 6), .int 0, .int 0, .int 0, .int 0, .int ep]))]) [0] (by decide) rfl
  have hFc := va_free (wc := [((b 0), .inr (15, [.int th, .ref (b 1), .ref (b 2), .int 0, .ref (b 3), .ref (b 4), .ref (b 5), .null, .ref (b 6), .int 0, .int 0, .int 0, .int 0, .int ep]))]) hD hS hA [0] rfl
  refine va_calli (va_runV (As := [.int 0]) (rest := []) ⟨hx, hb, hml, hown, hts⟩ (c_X13_reads l dC dI g b r1 r2 th ep 0  s.heap.size) (cwV 1 hts gX13_tries_X13_reads rfl rfl rfl (by decide +kernel) ⟨Nat.le_of_ble_eq_true rfl, Nat.le_of_ble_eq_true rfl⟩) ⟨PG_blind, va_recv hK hP (ci := 15) (q0 := 0) rfl rfl, PG_call hK hG hS hPc hDc hFc⟩ rfl rfl hl.1 rfl (lv_room (Nat.le_of_ble_eq_true rfl)) dX13_tries_2 ⟨Nat.le_of_ble_eq_true rfl, Nat.le_of_ble_eq_true rfl⟩) hS (fun q _ h => hFc q h) hFc (fun r_1 u_1 t_1 H_1 L_1 ht_1 hvm_1 hw_1 hB_1 hz_1 hk_1 hS => ?_)
  obtain ⟨hP1, hD1⟩ := hB_1
  rw [ht_1] at hP1
  obtain ⟨hP, hD⟩ := va_join (wr := [((b 3), .inl (g 4, 8, .inr (.inr (.inr (.inr (fun i => if i < 8 then some (r1 i) else none)))))), ((b 4), .inl (g 4, 8, .inr (.inr (.inr (.inr (fun i => if i < 8 then some (r2 i) else none)))))), ((r1 0), .inl (g 0, 0, .inl (fun _ => 0))), ((r1 1), .inl (g 0, 0, .inl (fun _ => 0))), ((r1 2), .inl (g 0, 0, .inl (fun _ => 0))), ((r1 3), .inl (g 0, 0, .inl (fun _ => 0))), ((r1 4), .inl (g 0, 0, .inl (fun _ => 0))), ((r1 5), .inl (g 0, 0, .inl (fun _ => 0))), ((r1 6), .inl (g 0, 0, .inl (fun _ => 0))), ((r1 7), .inl (g 0, 0, .inl (fun _ => 0)))]) (w1 := [((b 0), .inr (15, [.int th, .ref (b 1), .ref (b 2), .int 0, .ref (b 3), .ref (b 4), .ref (b 5), .null, .ref (b 6), .int 0, .int 0, .int 0, .int 0, .int (-1)]))]) hP hD [0] [1, 2, 3, 4, 5, 6, 7, 8, 9, 10] rfl rfl (by decide) (by decide) hk_1 hFc hP1 hD1
  have hP : va_P (dC, dI) vwCl [((b 3), .inl (g 4, 8, .inr (.inr (.inr (.inr (fun i => if i < 8 then some (r1 i) else none)))))), ((b 4), .inl (g 4, 8, .inr (.inr (.inr (.inr (fun i => if i < 8 then some (r2 i) else none)))))), ((r1 0), .inl (g 0, 0, .inl (fun _ => 0))), ((r1 1), .inl (g 0, 0, .inl (fun _ => 0))), ((r1 2), .inl (g 0, 0, .inl (fun _ => 0))), ((r1 3), .inl (g 0, 0, .inl (fun _ => 0))), ((r1 4), .inl (g 0, 0, .inl (fun _ => 0))), ((r1 5), .inl (g 0, 0, .inl (fun _ => 0))), ((r1 6), .inl (g 0, 0, .inl (fun _ => 0))), ((r1 7), .inl (g 0, 0, .inl (fun _ => 0))), ((b 0), .inr (15, [.int th, .ref (b 1), .ref (b 2), .int 0, .ref (b 3), .ref (b 4), .ref (b 5), .null, .ref (b 6), .int 0, .int 0, .int 0, .int 0, .int (-1)]))] H_1 := hP
  have hD : va_D A [((b 3), .inl (g 4, 8, .inr (.inr (.inr (.inr (fun i => if i < 8 then some (r1 i) else none)))))), ((b 4), .inl (g 4, 8, .inr (.inr (.inr (.inr (fun i => if i < 8 then some (r2 i) else none)))))), ((r1 0), .inl (g 0, 0, .inl (fun _ => 0))), ((r1 1), .inl (g 0, 0, .inl (fun _ => 0))), ((r1 2), .inl (g 0, 0, .inl (fun _ => 0))), ((r1 3), .inl (g 0, 0, .inl (fun _ => 0))), ((r1 4), .inl (g 0, 0, .inl (fun _ => 0))), ((r1 5), .inl (g 0, 0, .inl (fun _ => 0))), ((r1 6), .inl (g 0, 0, .inl (fun _ => 0))), ((r1 7), .inl (g 0, 0, .inl (fun _ => 0))), ((b 0), .inr (15, [.int th, .ref (b 1), .ref (b 2), .int 0, .ref (b 3), .ref (b 4), .ref (b 5), .null, .ref (b 6), .int 0, .int 0, .int 0, .int 0, .int (-1)]))] := hD
  obtain rfl : r_1 = 0 := hw_1
  refine lv_istore_n (lv' := [(1, .int 0), (0, .ref (b 0))]) hx hb dX13_tries_5 rfl hl (by decide) rfl (fun ls hl => ?_)
  refine lv_aload_n hx hb dX13_tries_6 rfl (lv_at hl 1 rfl) ?_
  refine va_get (D := (dC, dI)) (ci := 15) (v := .int 0) (C := RX13) (T := TX13) (N := 14) hx hb hts hiX13 hown hK hP 10 rfl rfl 12 (by decide) hf236 (fun _ h9 => h9) rfl dX13_tries_7 ?_
  refine lv_if_ne (tgt := 45) hx hb dX13_tries_10 (by decide) (fun c_2 => absurd (by decide) c_2) (fun c_2 => ?_)
  refine lv_iconst (v := 0) hx hb dX13_tries_13 (by decide) ?_
  refine lv_istore_n (lv' := [(2, .int 0), (1, .int 0), (0, .ref (b 0))]) hx hb dX13_tries_14 rfl hl (by decide) rfl (fun ls hl => ?_)
  refine lv_iload_n hx hb dX13_tries_15 rfl (lv_at hl 0 rfl) ?_
  refine lv_bipush (v := 8) hx hb dX13_tries_16 (by decide) ?_
  refine lv_icmp_ge (tgt := 39) hx hb dX13_tries_18 (by decide) (fun c_3 => absurd c_3 (by decide)) (fun c_3 => ?_)
  refine lv_aload_n hx hb dX13_tries_21 rfl (lv_at hl 2 rfl) ?_
  refine va_get (D := (dC, dI)) (ci := 15) (v := .ref (b 4)) (C := RX13) (T := TX13) (N := 14) hx hb hts hiX13 hown hK hP 10 rfl rfl 5 (by decide) hf32 (fun _ h9 => h9) rfl dX13_tries_22 ?_
  refine lv_iload_n hx hb dX13_tries_25 rfl (lv_at hl 0 rfl) ?_
  refine lv_aload_n hx hb dX13_tries_26 rfl (lv_at hl 2 rfl) ?_
  refine va_get (D := (dC, dI)) (ci := 15) (v := .ref (b 3)) (C := RX13) (T := TX13) (N := 14) hx hb hts hiX13 hown hK hP 10 rfl rfl 4 (by decide) hf29 (fun _ h9 => h9) rfl dX13_tries_27 ?_
  refine lv_iload_n hx hb dX13_tries_30 rfl (lv_at hl 0 rfl) ?_
  refine va_aldA hx hb hK hP 0 rfl (by unfold vp_in; decide) dX13_tries_31 ?_
  refine W.eq (g2 := F0 m 32 ls [.ref (r1 0), .int 0, .ref (b 4)]) (rfl) ?_
  refine va_astA hx hb hK (ao_3 hG) hP hD hS 1 2 rfl rfl (by unfold vp_in; decide) dX13_tries_32 (fun H_4 L_5 hP hD hS => ?_)
  have hP : va_P (dC, dI) vwCl [((b 3), .inl (g 4, 8, .inr (.inr (.inr (.inr (fun i => if i < 8 then some (r1 i) else none)))))), ((b 4), .inl (g 4, 8, .inr (.inr (.inr (.inr (va_up (fun i => if i < 8 then some (r2 i) else none) (0 : Int32).toNatClampNeg (some (r1 0)))))))), ((r1 0), .inl (g 0, 0, .inl (fun _ => 0))), ((r1 1), .inl (g 0, 0, .inl (fun _ => 0))), ((r1 2), .inl (g 0, 0, .inl (fun _ => 0))), ((r1 3), .inl (g 0, 0, .inl (fun _ => 0))), ((r1 4), .inl (g 0, 0, .inl (fun _ => 0))), ((r1 5), .inl (g 0, 0, .inl (fun _ => 0))), ((r1 6), .inl (g 0, 0, .inl (fun _ => 0))), ((r1 7), .inl (g 0, 0, .inl (fun _ => 0))), ((b 0), .inr (15, [.int th, .ref (b 1), .ref (b 2), .int 0, .ref (b 3), .ref (b 4), .ref (b 5), .null, .ref (b 6), .int 0, .int 0, .int 0, .int 0, .int (-1)]))] H_4 := hP
  have hD : va_D A [((b 3), .inl (g 4, 8, .inr (.inr (.inr (.inr (fun i => if i < 8 then some (r1 i) else none)))))), ((b 4), .inl (g 4, 8, .inr (.inr (.inr (.inr (va_up (fun i => if i < 8 then some (r2 i) else none) (0 : Int32).toNatClampNeg (some (r1 0)))))))), ((r1 0), .inl (g 0, 0, .inl (fun _ => 0))), ((r1 1), .inl (g 0, 0, .inl (fun _ => 0))), ((r1 2), .inl (g 0, 0, .inl (fun _ => 0))), ((r1 3), .inl (g 0, 0, .inl (fun _ => 0))), ((r1 4), .inl (g 0, 0, .inl (fun _ => 0))), ((r1 5), .inl (g 0, 0, .inl (fun _ => 0))), ((r1 6), .inl (g 0, 0, .inl (fun _ => 0))), ((r1 7), .inl (g 0, 0, .inl (fun _ => 0))), ((b 0), .inr (15, [.int th, .ref (b 1), .ref (b 2), .int 0, .ref (b 3), .ref (b 4), .ref (b 5), .null, .ref (b 6), .int 0, .int 0, .int 0, .int 0, .int (-1)]))] := hD
  refine lv_iinc (v := 1) (lv' := [(2, .int 1), (1, .int 0), (0, .ref (b 0))]) hx hb dX13_tries_33 hl (k := 0) rfl (by decide) (by decide) rfl (fun ls hl => ?_)
  refine lv_goto (tgt := 15) hx hb dX13_tries_36 (by decide) ?_
  refine lv_iload_n hx hb dX13_tries_15 rfl (lv_at hl 0 rfl) ?_
  refine lv_bipush (v := 8) hx hb dX13_tries_16 (by decide) ?_
  refine lv_icmp_ge (tgt := 39) hx hb dX13_tries_18 (by decide) (fun c_6 => absurd c_6 (by decide)) (fun c_6 => ?_)
  refine lv_aload_n hx hb dX13_tries_21 rfl (lv_at hl 2 rfl) ?_
  refine va_get (D := (dC, dI)) (ci := 15) (v := .ref (b 4)) (C := RX13) (T := TX13) (N := 14) hx hb hts hiX13 hown hK hP 10 rfl rfl 5 (by decide) hf32 (fun _ h9 => h9) rfl dX13_tries_22 ?_
  refine lv_iload_n hx hb dX13_tries_25 rfl (lv_at hl 0 rfl) ?_
  refine lv_aload_n hx hb dX13_tries_26 rfl (lv_at hl 2 rfl) ?_
  refine va_get (D := (dC, dI)) (ci := 15) (v := .ref (b 3)) (C := RX13) (T := TX13) (N := 14) hx hb hts hiX13 hown hK hP 10 rfl rfl 4 (by decide) hf29 (fun _ h9 => h9) rfl dX13_tries_27 ?_
  refine lv_iload_n hx hb dX13_tries_30 rfl (lv_at hl 0 rfl) ?_
  refine va_aldA hx hb hK hP 0 rfl (by unfold vp_in; decide) dX13_tries_31 ?_
  refine W.eq (g2 := F0 m 32 ls [.ref (r1 1), .int 1, .ref (b 4)]) (rfl) ?_
  refine va_astA hx hb hK (ao_3 hG) hP hD hS 1 3 rfl rfl (by unfold vp_in; decide) dX13_tries_32 (fun H_7 L_8 hP hD hS => ?_)
  have hP : va_P (dC, dI) vwCl [((b 3), .inl (g 4, 8, .inr (.inr (.inr (.inr (fun i => if i < 8 then some (r1 i) else none)))))), ((b 4), .inl (g 4, 8, .inr (.inr (.inr (.inr (va_up (va_up (fun i => if i < 8 then some (r2 i) else none) (0 : Int32).toNatClampNeg (some (r1 0))) (1 : Int32).toNatClampNeg (some (r1 1)))))))), ((r1 0), .inl (g 0, 0, .inl (fun _ => 0))), ((r1 1), .inl (g 0, 0, .inl (fun _ => 0))), ((r1 2), .inl (g 0, 0, .inl (fun _ => 0))), ((r1 3), .inl (g 0, 0, .inl (fun _ => 0))), ((r1 4), .inl (g 0, 0, .inl (fun _ => 0))), ((r1 5), .inl (g 0, 0, .inl (fun _ => 0))), ((r1 6), .inl (g 0, 0, .inl (fun _ => 0))), ((r1 7), .inl (g 0, 0, .inl (fun _ => 0))), ((b 0), .inr (15, [.int th, .ref (b 1), .ref (b 2), .int 0, .ref (b 3), .ref (b 4), .ref (b 5), .null, .ref (b 6), .int 0, .int 0, .int 0, .int 0, .int (-1)]))] H_7 := hP
  have hD : va_D A [((b 3), .inl (g 4, 8, .inr (.inr (.inr (.inr (fun i => if i < 8 then some (r1 i) else none)))))), ((b 4), .inl (g 4, 8, .inr (.inr (.inr (.inr (va_up (va_up (fun i => if i < 8 then some (r2 i) else none) (0 : Int32).toNatClampNeg (some (r1 0))) (1 : Int32).toNatClampNeg (some (r1 1)))))))), ((r1 0), .inl (g 0, 0, .inl (fun _ => 0))), ((r1 1), .inl (g 0, 0, .inl (fun _ => 0))), ((r1 2), .inl (g 0, 0, .inl (fun _ => 0))), ((r1 3), .inl (g 0, 0, .inl (fun _ => 0))), ((r1 4), .inl (g 0, 0, .inl (fun _ => 0))), ((r1 5), .inl (g 0, 0, .inl (fun _ => 0))), ((r1 6), .inl (g 0, 0, .inl (fun _ => 0))), ((r1 7), .inl (g 0, 0, .inl (fun _ => 0))), ((b 0), .inr (15, [.int th, .ref (b 1), .ref (b 2), .int 0, .ref (b 3), .ref (b 4), .ref (b 5), .null, .ref (b 6), .int 0, .int 0, .int 0, .int 0, .int (-1)]))] := hD
  refine lv_iinc (v := 2) (lv' := [(2, .int 2), (1, .int 0), (0, .ref (b 0))]) hx hb dX13_tries_33 hl (k := 0) rfl (by decide) (by decide) rfl (fun ls hl => ?_)
  refine lv_goto (tgt := 15) hx hb dX13_tries_36 (by decide) ?_
  refine lv_iload_n hx hb dX13_tries_15 rfl (lv_at hl 0 rfl) ?_
  refine lv_bipush (v := 8) hx hb dX13_tries_16 (by decide) ?_
  refine lv_icmp_ge (tgt := 39) hx hb dX13_tries_18 (by decide) (fun c_9 => absurd c_9 (by decide)) (fun c_9 => ?_)
  refine lv_aload_n hx hb dX13_tries_21 rfl (lv_at hl 2 rfl) ?_
  refine va_get (D := (dC, dI)) (ci := 15) (v := .ref (b 4)) (C := RX13) (T := TX13) (N := 14) hx hb hts hiX13 hown hK hP 10 rfl rfl 5 (by decide) hf32 (fun _ h9 => h9) rfl dX13_tries_22 ?_
  refine lv_iload_n hx hb dX13_tries_25 rfl (lv_at hl 0 rfl) ?_
  refine lv_aload_n hx hb dX13_tries_26 rfl (lv_at hl 2 rfl) ?_
  refine va_get (D := (dC, dI)) (ci := 15) (v := .ref (b 3)) (C := RX13) (T := TX13) (N := 14) hx hb hts hiX13 hown hK hP 10 rfl rfl 4 (by decide) hf29 (fun _ h9 => h9) rfl dX13_tries_27 ?_
  refine lv_iload_n hx hb dX13_tries_30 rfl (lv_at hl 0 rfl) ?_
  refine va_aldA hx hb hK hP 0 rfl (by unfold vp_in; decide) dX13_tries_31 ?_
  refine W.eq (g2 := F0 m 32 ls [.ref (r1 2), .int 2, .ref (b 4)]) (rfl) ?_
  refine va_astA hx hb hK (ao_3 hG) hP hD hS 1 4 rfl rfl (by unfold vp_in; decide) dX13_tries_32 (fun H_10 L_11 hP hD hS => ?_)
  have hP : va_P (dC, dI) vwCl [((b 3), .inl (g 4, 8, .inr (.inr (.inr (.inr (fun i => if i < 8 then some (r1 i) else none)))))), ((b 4), .inl (g 4, 8, .inr (.inr (.inr (.inr (va_up (va_up (va_up (fun i => if i < 8 then some (r2 i) else none) (0 : Int32).toNatClampNeg (some (r1 0))) (1 : Int32).toNatClampNeg (some (r1 1))) (2 : Int32).toNatClampNeg (some (r1 2)))))))), ((r1 0), .inl (g 0, 0, .inl (fun _ => 0))), ((r1 1), .inl (g 0, 0, .inl (fun _ => 0))), ((r1 2), .inl (g 0, 0, .inl (fun _ => 0))), ((r1 3), .inl (g 0, 0, .inl (fun _ => 0))), ((r1 4), .inl (g 0, 0, .inl (fun _ => 0))), ((r1 5), .inl (g 0, 0, .inl (fun _ => 0))), ((r1 6), .inl (g 0, 0, .inl (fun _ => 0))), ((r1 7), .inl (g 0, 0, .inl (fun _ => 0))), ((b 0), .inr (15, [.int th, .ref (b 1), .ref (b 2), .int 0, .ref (b 3), .ref (b 4), .ref (b 5), .null, .ref (b 6), .int 0, .int 0, .int 0, .int 0, .int (-1)]))] H_10 := hP
  have hD : va_D A [((b 3), .inl (g 4, 8, .inr (.inr (.inr (.inr (fun i => if i < 8 then some (r1 i) else none)))))), ((b 4), .inl (g 4, 8, .inr (.inr (.inr (.inr (va_up (va_up (va_up (fun i => if i < 8 then some (r2 i) else none) (0 : Int32).toNatClampNeg (some (r1 0))) (1 : Int32).toNatClampNeg (some (r1 1))) (2 : Int32).toNatClampNeg (some (r1 2)))))))), ((r1 0), .inl (g 0, 0, .inl (fun _ => 0))), ((r1 1), .inl (g 0, 0, .inl (fun _ => 0))), ((r1 2), .inl (g 0, 0, .inl (fun _ => 0))), ((r1 3), .inl (g 0, 0, .inl (fun _ => 0))), ((r1 4), .inl (g 0, 0, .inl (fun _ => 0))), ((r1 5), .inl (g 0, 0, .inl (fun _ => 0))), ((r1 6), .inl (g 0, 0, .inl (fun _ => 0))), ((r1 7), .inl (g 0, 0, .inl (fun _ => 0))), ((b 0), .inr (15, [.int th, .ref (b 1), .ref (b 2), .int 0, .ref (b 3), .ref (b 4), .ref (b 5), .null, .ref (b 6), .int 0, .int 0, .int 0, .int 0, .int (-1)]))] := hD
  refine lv_iinc (v := 3) (lv' := [(2, .int 3), (1, .int 0), (0, .ref (b 0))]) hx hb dX13_tries_33 hl (k := 0) rfl (by decide) (by decide) rfl (fun ls hl => ?_)
  refine lv_goto (tgt := 15) hx hb dX13_tries_36 (by decide) ?_
  refine lv_iload_n hx hb dX13_tries_15 rfl (lv_at hl 0 rfl) ?_
  refine lv_bipush (v := 8) hx hb dX13_tries_16 (by decide) ?_
  refine lv_icmp_ge (tgt := 39) hx hb dX13_tries_18 (by decide) (fun c_12 => absurd c_12 (by decide)) (fun c_12 => ?_)
  refine lv_aload_n hx hb dX13_tries_21 rfl (lv_at hl 2 rfl) ?_
  refine va_get (D := (dC, dI)) (ci := 15) (v := .ref (b 4)) (C := RX13) (T := TX13) (N := 14) hx hb hts hiX13 hown hK hP 10 rfl rfl 5 (by decide) hf32 (fun _ h9 => h9) rfl dX13_tries_22 ?_
  refine lv_iload_n hx hb dX13_tries_25 rfl (lv_at hl 0 rfl) ?_
  refine lv_aload_n hx hb dX13_tries_26 rfl (lv_at hl 2 rfl) ?_
  refine va_get (D := (dC, dI)) (ci := 15) (v := .ref (b 3)) (C := RX13) (T := TX13) (N := 14) hx hb hts hiX13 hown hK hP 10 rfl rfl 4 (by decide) hf29 (fun _ h9 => h9) rfl dX13_tries_27 ?_
  refine lv_iload_n hx hb dX13_tries_30 rfl (lv_at hl 0 rfl) ?_
  refine va_aldA hx hb hK hP 0 rfl (by unfold vp_in; decide) dX13_tries_31 ?_
  refine W.eq (g2 := F0 m 32 ls [.ref (r1 3), .int 3, .ref (b 4)]) (rfl) ?_
  refine va_astA hx hb hK (ao_3 hG) hP hD hS 1 5 rfl rfl (by unfold vp_in; decide) dX13_tries_32 (fun H_13 L_14 hP hD hS => ?_)
  have hP : va_P (dC, dI) vwCl [((b 3), .inl (g 4, 8, .inr (.inr (.inr (.inr (fun i => if i < 8 then some (r1 i) else none)))))), ((b 4), .inl (g 4, 8, .inr (.inr (.inr (.inr (va_up (va_up (va_up (va_up (fun i => if i < 8 then some (r2 i) else none) (0 : Int32).toNatClampNeg (some (r1 0))) (1 : Int32).toNatClampNeg (some (r1 1))) (2 : Int32).toNatClampNeg (some (r1 2))) (3 : Int32).toNatClampNeg (some (r1 3)))))))), ((r1 0), .inl (g 0, 0, .inl (fun _ => 0))), ((r1 1), .inl (g 0, 0, .inl (fun _ => 0))), ((r1 2), .inl (g 0, 0, .inl (fun _ => 0))), ((r1 3), .inl (g 0, 0, .inl (fun _ => 0))), ((r1 4), .inl (g 0, 0, .inl (fun _ => 0))), ((r1 5), .inl (g 0, 0, .inl (fun _ => 0))), ((r1 6), .inl (g 0, 0, .inl (fun _ => 0))), ((r1 7), .inl (g 0, 0, .inl (fun _ => 0))), ((b 0), .inr (15, [.int th, .ref (b 1), .ref (b 2), .int 0, .ref (b 3), .ref (b 4), .ref (b 5), .null, .ref (b 6), .int 0, .int 0, .int 0, .int 0, .int (-1)]))] H_13 := hP
  have hD : va_D A [((b 3), .inl (g 4, 8, .inr (.inr (.inr (.inr (fun i => if i < 8 then some (r1 i) else none)))))), ((b 4), .inl (g 4, 8, .inr (.inr (.inr (.inr (va_up (va_up (va_up (va_up (fun i => if i < 8 then some (r2 i) else none) (0 : Int32).toNatClampNeg (some (r1 0))) (1 : Int32).toNatClampNeg (some (r1 1))) (2 : Int32).toNatClampNeg (some (r1 2))) (3 : Int32).toNatClampNeg (some (r1 3)))))))), ((r1 0), .inl (g 0, 0, .inl (fun _ => 0))), ((r1 1), .inl (g 0, 0, .inl (fun _ => 0))), ((r1 2), .inl (g 0, 0, .inl (fun _ => 0))), ((r1 3), .inl (g 0, 0, .inl (fun _ => 0))), ((r1 4), .inl (g 0, 0, .inl (fun _ => 0))), ((r1 5), .inl (g 0, 0, .inl (fun _ => 0))), ((r1 6), .inl (g 0, 0, .inl (fun _ => 0))), ((r1 7), .inl (g 0, 0, .inl (fun _ => 0))), ((b 0), .inr (15, [.int th, .ref (b 1), .ref (b 2), .int 0, .ref (b 3), .ref (b 4), .ref (b 5), .null, .ref (b 6), .int 0, .int 0, .int 0, .int 0, .int (-1)]))] := hD
  refine lv_iinc (v := 4) (lv' := [(2, .int 4), (1, .int 0), (0, .ref (b 0))]) hx hb dX13_tries_33 hl (k := 0) rfl (by decide) (by decide) rfl (fun ls hl => ?_)
  refine lv_goto (tgt := 15) hx hb dX13_tries_36 (by decide) ?_
  refine lv_iload_n hx hb dX13_tries_15 rfl (lv_at hl 0 rfl) ?_
  refine lv_bipush (v := 8) hx hb dX13_tries_16 (by decide) ?_
  refine lv_icmp_ge (tgt := 39) hx hb dX13_tries_18 (by decide) (fun c_15 => absurd c_15 (by decide)) (fun c_15 => ?_)
  refine lv_aload_n hx hb dX13_tries_21 rfl (lv_at hl 2 rfl) ?_
  refine va_get (D := (dC, dI)) (ci := 15) (v := .ref (b 4)) (C := RX13) (T := TX13) (N := 14) hx hb hts hiX13 hown hK hP 10 rfl rfl 5 (by decide) hf32 (fun _ h9 => h9) rfl dX13_tries_22 ?_
  refine lv_iload_n hx hb dX13_tries_25 rfl (lv_at hl 0 rfl) ?_
  refine lv_aload_n hx hb dX13_tries_26 rfl (lv_at hl 2 rfl) ?_
  refine va_get (D := (dC, dI)) (ci := 15) (v := .ref (b 3)) (C := RX13) (T := TX13) (N := 14) hx hb hts hiX13 hown hK hP 10 rfl rfl 4 (by decide) hf29 (fun _ h9 => h9) rfl dX13_tries_27 ?_
  refine lv_iload_n hx hb dX13_tries_30 rfl (lv_at hl 0 rfl) ?_
  refine va_aldA hx hb hK hP 0 rfl (by unfold vp_in; decide) dX13_tries_31 ?_
  refine W.eq (g2 := F0 m 32 ls [.ref (r1 4), .int 4, .ref (b 4)]) (rfl) ?_
  refine va_astA hx hb hK (ao_3 hG) hP hD hS 1 6 rfl rfl (by unfold vp_in; decide) dX13_tries_32 (fun H_16 L_17 hP hD hS => ?_)
  have hP : va_P (dC, dI) vwCl [((b 3), .inl (g 4, 8, .inr (.inr (.inr (.inr (fun i => if i < 8 then some (r1 i) else none)))))), ((b 4), .inl (g 4, 8, .inr (.inr (.inr (.inr (va_up (va_up (va_up (va_up (va_up (fun i => if i < 8 then some (r2 i) else none) (0 : Int32).toNatClampNeg (some (r1 0))) (1 : Int32).toNatClampNeg (some (r1 1))) (2 : Int32).toNatClampNeg (some (r1 2))) (3 : Int32).toNatClampNeg (some (r1 3))) (4 : Int32).toNatClampNeg (some (r1 4)))))))), ((r1 0), .inl (g 0, 0, .inl (fun _ => 0))), ((r1 1), .inl (g 0, 0, .inl (fun _ => 0))), ((r1 2), .inl (g 0, 0, .inl (fun _ => 0))), ((r1 3), .inl (g 0, 0, .inl (fun _ => 0))), ((r1 4), .inl (g 0, 0, .inl (fun _ => 0))), ((r1 5), .inl (g 0, 0, .inl (fun _ => 0))), ((r1 6), .inl (g 0, 0, .inl (fun _ => 0))), ((r1 7), .inl (g 0, 0, .inl (fun _ => 0))), ((b 0), .inr (15, [.int th, .ref (b 1), .ref (b 2), .int 0, .ref (b 3), .ref (b 4), .ref (b 5), .null, .ref (b 6), .int 0, .int 0, .int 0, .int 0, .int (-1)]))] H_16 := hP
  have hD : va_D A [((b 3), .inl (g 4, 8, .inr (.inr (.inr (.inr (fun i => if i < 8 then some (r1 i) else none)))))), ((b 4), .inl (g 4, 8, .inr (.inr (.inr (.inr (va_up (va_up (va_up (va_up (va_up (fun i => if i < 8 then some (r2 i) else none) (0 : Int32).toNatClampNeg (some (r1 0))) (1 : Int32).toNatClampNeg (some (r1 1))) (2 : Int32).toNatClampNeg (some (r1 2))) (3 : Int32).toNatClampNeg (some (r1 3))) (4 : Int32).toNatClampNeg (some (r1 4)))))))), ((r1 0), .inl (g 0, 0, .inl (fun _ => 0))), ((r1 1), .inl (g 0, 0, .inl (fun _ => 0))), ((r1 2), .inl (g 0, 0, .inl (fun _ => 0))), ((r1 3), .inl (g 0, 0, .inl (fun _ => 0))), ((r1 4), .inl (g 0, 0, .inl (fun _ => 0))), ((r1 5), .inl (g 0, 0, .inl (fun _ => 0))), ((r1 6), .inl (g 0, 0, .inl (fun _ => 0))), ((r1 7), .inl (g 0, 0, .inl (fun _ => 0))), ((b 0), .inr (15, [.int th, .ref (b 1), .ref (b 2), .int 0, .ref (b 3), .ref (b 4), .ref (b 5), .null, .ref (b 6), .int 0, .int 0, .int 0, .int 0, .int (-1)]))] := hD
  refine lv_iinc (v := 5) (lv' := [(2, .int 5), (1, .int 0), (0, .ref (b 0))]) hx hb dX13_tries_33 hl (k := 0) rfl (by decide) (by decide) rfl (fun ls hl => ?_)
  refine lv_goto (tgt := 15) hx hb dX13_tries_36 (by decide) ?_
  refine lv_iload_n hx hb dX13_tries_15 rfl (lv_at hl 0 rfl) ?_
  refine lv_bipush (v := 8) hx hb dX13_tries_16 (by decide) ?_
  refine lv_icmp_ge (tgt := 39) hx hb dX13_tries_18 (by decide) (fun c_18 => absurd c_18 (by decide)) (fun c_18 => ?_)
  refine lv_aload_n hx hb dX13_tries_21 rfl (lv_at hl 2 rfl) ?_
  refine va_get (D := (dC, dI)) (ci := 15) (v := .ref (b 4)) (C := RX13) (T := TX13) (N := 14) hx hb hts hiX13 hown hK hP 10 rfl rfl 5 (by decide) hf32 (fun _ h9 => h9) rfl dX13_tries_22 ?_
  refine lv_iload_n hx hb dX13_tries_25 rfl (lv_at hl 0 rfl) ?_
  refine lv_aload_n hx hb dX13_tries_26 rfl (lv_at hl 2 rfl) ?_
  refine va_get (D := (dC, dI)) (ci := 15) (v := .ref (b 3)) (C := RX13) (T := TX13) (N := 14) hx hb hts hiX13 hown hK hP 10 rfl rfl 4 (by decide) hf29 (fun _ h9 => h9) rfl dX13_tries_27 ?_
  refine lv_iload_n hx hb dX13_tries_30 rfl (lv_at hl 0 rfl) ?_
  refine va_aldA hx hb hK hP 0 rfl (by unfold vp_in; decide) dX13_tries_31 ?_
  refine W.eq (g2 := F0 m 32 ls [.ref (r1 5), .int 5, .ref (b 4)]) (rfl) ?_
  refine va_astA hx hb hK (ao_3 hG) hP hD hS 1 7 rfl rfl (by unfold vp_in; decide) dX13_tries_32 (fun H_19 L_20 hP hD hS => ?_)
  have hP : va_P (dC, dI) vwCl [((b 3), .inl (g 4, 8, .inr (.inr (.inr (.inr (fun i => if i < 8 then some (r1 i) else none)))))), ((b 4), .inl (g 4, 8, .inr (.inr (.inr (.inr (va_up (va_up (va_up (va_up (va_up (va_up (fun i => if i < 8 then some (r2 i) else none) (0 : Int32).toNatClampNeg (some (r1 0))) (1 : Int32).toNatClampNeg (some (r1 1))) (2 : Int32).toNatClampNeg (some (r1 2))) (3 : Int32).toNatClampNeg (some (r1 3))) (4 : Int32).toNatClampNeg (some (r1 4))) (5 : Int32).toNatClampNeg (some (r1 5)))))))), ((r1 0), .inl (g 0, 0, .inl (fun _ => 0))), ((r1 1), .inl (g 0, 0, .inl (fun _ => 0))), ((r1 2), .inl (g 0, 0, .inl (fun _ => 0))), ((r1 3), .inl (g 0, 0, .inl (fun _ => 0))), ((r1 4), .inl (g 0, 0, .inl (fun _ => 0))), ((r1 5), .inl (g 0, 0, .inl (fun _ => 0))), ((r1 6), .inl (g 0, 0, .inl (fun _ => 0))), ((r1 7), .inl (g 0, 0, .inl (fun _ => 0))), ((b 0), .inr (15, [.int th, .ref (b 1), .ref (b 2), .int 0, .ref (b 3), .ref (b 4), .ref (b 5), .null, .ref (b 6), .int 0, .int 0, .int 0, .int 0, .int (-1)]))] H_19 := hP
  have hD : va_D A [((b 3), .inl (g 4, 8, .inr (.inr (.inr (.inr (fun i => if i < 8 then some (r1 i) else none)))))), ((b 4), .inl (g 4, 8, .inr (.inr (.inr (.inr (va_up (va_up (va_up (va_up (va_up (va_up (fun i => if i < 8 then some (r2 i) else none) (0 : Int32).toNatClampNeg (some (r1 0))) (1 : Int32).toNatClampNeg (some (r1 1))) (2 : Int32).toNatClampNeg (some (r1 2))) (3 : Int32).toNatClampNeg (some (r1 3))) (4 : Int32).toNatClampNeg (some (r1 4))) (5 : Int32).toNatClampNeg (some (r1 5)))))))), ((r1 0), .inl (g 0, 0, .inl (fun _ => 0))), ((r1 1), .inl (g 0, 0, .inl (fun _ => 0))), ((r1 2), .inl (g 0, 0, .inl (fun _ => 0))), ((r1 3), .inl (g 0, 0, .inl (fun _ => 0))), ((r1 4), .inl (g 0, 0, .inl (fun _ => 0))), ((r1 5), .inl (g 0, 0, .inl (fun _ => 0))), ((r1 6), .inl (g 0, 0, .inl (fun _ => 0))), ((r1 7), .inl (g 0, 0, .inl (fun _ => 0))), ((b 0), .inr (15, [.int th, .ref (b 1), .ref (b 2), .int 0, .ref (b 3), .ref (b 4), .ref (b 5), .null, .ref (b 6), .int 0, .int 0, .int 0, .int 0, .int (-1)]))] := hD
  refine lv_iinc (v := 6) (lv' := [(2, .int 6), (1, .int 0), (0, .ref (b 0))]) hx hb dX13_tries_33 hl (k := 0) rfl (by decide) (by decide) rfl (fun ls hl => ?_)
  refine lv_goto (tgt := 15) hx hb dX13_tries_36 (by decide) ?_
  refine lv_iload_n hx hb dX13_tries_15 rfl (lv_at hl 0 rfl) ?_
  refine lv_bipush (v := 8) hx hb dX13_tries_16 (by decide) ?_
  refine lv_icmp_ge (tgt := 39) hx hb dX13_tries_18 (by decide) (fun c_21 => absurd c_21 (by decide)) (fun c_21 => ?_)
  refine lv_aload_n hx hb dX13_tries_21 rfl (lv_at hl 2 rfl) ?_
  refine va_get (D := (dC, dI)) (ci := 15) (v := .ref (b 4)) (C := RX13) (T := TX13) (N := 14) hx hb hts hiX13 hown hK hP 10 rfl rfl 5 (by decide) hf32 (fun _ h9 => h9) rfl dX13_tries_22 ?_
  refine lv_iload_n hx hb dX13_tries_25 rfl (lv_at hl 0 rfl) ?_
  refine lv_aload_n hx hb dX13_tries_26 rfl (lv_at hl 2 rfl) ?_
  refine va_get (D := (dC, dI)) (ci := 15) (v := .ref (b 3)) (C := RX13) (T := TX13) (N := 14) hx hb hts hiX13 hown hK hP 10 rfl rfl 4 (by decide) hf29 (fun _ h9 => h9) rfl dX13_tries_27 ?_
  refine lv_iload_n hx hb dX13_tries_30 rfl (lv_at hl 0 rfl) ?_
  refine va_aldA hx hb hK hP 0 rfl (by unfold vp_in; decide) dX13_tries_31 ?_
  refine W.eq (g2 := F0 m 32 ls [.ref (r1 6), .int 6, .ref (b 4)]) (rfl) ?_
  refine va_astA hx hb hK (ao_3 hG) hP hD hS 1 8 rfl rfl (by unfold vp_in; decide) dX13_tries_32 (fun H_22 L_23 hP hD hS => ?_)
  have hP : va_P (dC, dI) vwCl [((b 3), .inl (g 4, 8, .inr (.inr (.inr (.inr (fun i => if i < 8 then some (r1 i) else none)))))), ((b 4), .inl (g 4, 8, .inr (.inr (.inr (.inr (va_up (va_up (va_up (va_up (va_up (va_up (va_up (fun i => if i < 8 then some (r2 i) else none) (0 : Int32).toNatClampNeg (some (r1 0))) (1 : Int32).toNatClampNeg (some (r1 1))) (2 : Int32).toNatClampNeg (some (r1 2))) (3 : Int32).toNatClampNeg (some (r1 3))) (4 : Int32).toNatClampNeg (some (r1 4))) (5 : Int32).toNatClampNeg (some (r1 5))) (6 : Int32).toNatClampNeg (some (r1 6)))))))), ((r1 0), .inl (g 0, 0, .inl (fun _ => 0))), ((r1 1), .inl (g 0, 0, .inl (fun _ => 0))), ((r1 2), .inl (g 0, 0, .inl (fun _ => 0))), ((r1 3), .inl (g 0, 0, .inl (fun _ => 0))), ((r1 4), .inl (g 0, 0, .inl (fun _ => 0))), ((r1 5), .inl (g 0, 0, .inl (fun _ => 0))), ((r1 6), .inl (g 0, 0, .inl (fun _ => 0))), ((r1 7), .inl (g 0, 0, .inl (fun _ => 0))), ((b 0), .inr (15, [.int th, .ref (b 1), .ref (b 2), .int 0, .ref (b 3), .ref (b 4), .ref (b 5), .null, .ref (b 6), .int 0, .int 0, .int 0, .int 0, .int (-1)]))] H_22 := hP
  have hD : va_D A [((b 3), .inl (g 4, 8, .inr (.inr (.inr (.inr (fun i => if i < 8 then some (r1 i) else none)))))), ((b 4), .inl (g 4, 8, .inr (.inr (.inr (.inr (va_up (va_up (va_up (va_up (va_up (va_up (va_up (fun i => if i < 8 then some (r2 i) else none) (0 : Int32).toNatClampNeg (some (r1 0))) (1 : Int32).toNatClampNeg (some (r1 1))) (2 : Int32).toNatClampNeg (some (r1 2))) (3 : Int32).toNatClampNeg (some (r1 3))) (4 : Int32).toNatClampNeg (some (r1 4))) (5 : Int32).toNatClampNeg (some (r1 5))) (6 : Int32).toNatClampNeg (some (r1 6)))))))), ((r1 0), .inl (g 0, 0, .inl (fun _ => 0))), ((r1 1), .inl (g 0, 0, .inl (fun _ => 0))), ((r1 2), .inl (g 0, 0, .inl (fun _ => 0))), ((r1 3), .inl (g 0, 0, .inl (fun _ => 0))), ((r1 4), .inl (g 0, 0, .inl (fun _ => 0))), ((r1 5), .inl (g 0, 0, .inl (fun _ => 0))), ((r1 6), .inl (g 0, 0, .inl (fun _ => 0))), ((r1 7), .inl (g 0, 0, .inl (fun _ => 0))), ((b 0), .inr (15, [.int th, .ref (b 1), .ref (b 2), .int 0, .ref (b 3), .ref (b 4), .ref (b 5), .null, .ref (b 6), .int 0, .int 0, .int 0, .int 0, .int (-1)]))] := hD
  refine lv_iinc (v := 7) (lv' := [(2, .int 7), (1, .int 0), (0, .ref (b 0))]) hx hb dX13_tries_33 hl (k := 0) rfl (by decide) (by decide) rfl (fun ls hl => ?_)
  refine lv_goto (tgt := 15) hx hb dX13_tries_36 (by decide) ?_
  refine lv_iload_n hx hb dX13_tries_15 rfl (lv_at hl 0 rfl) ?_
  refine lv_bipush (v := 8) hx hb dX13_tries_16 (by decide) ?_
  refine lv_icmp_ge (tgt := 39) hx hb dX13_tries_18 (by decide) (fun c_24 => absurd c_24 (by decide)) (fun c_24 => ?_)
  refine lv_aload_n hx hb dX13_tries_21 rfl (lv_at hl 2 rfl) ?_
  refine va_get (D := (dC, dI)) (ci := 15) (v := .ref (b 4)) (C := RX13) (T := TX13) (N := 14) hx hb hts hiX13 hown hK hP 10 rfl rfl 5 (by decide) hf32 (fun _ h9 => h9) rfl dX13_tries_22 ?_
  refine lv_iload_n hx hb dX13_tries_25 rfl (lv_at hl 0 rfl) ?_
  refine lv_aload_n hx hb dX13_tries_26 rfl (lv_at hl 2 rfl) ?_
  refine va_get (D := (dC, dI)) (ci := 15) (v := .ref (b 3)) (C := RX13) (T := TX13) (N := 14) hx hb hts hiX13 hown hK hP 10 rfl rfl 4 (by decide) hf29 (fun _ h9 => h9) rfl dX13_tries_27 ?_
  refine lv_iload_n hx hb dX13_tries_30 rfl (lv_at hl 0 rfl) ?_
  refine va_aldA hx hb hK hP 0 rfl (by unfold vp_in; decide) dX13_tries_31 ?_
  refine W.eq (g2 := F0 m 32 ls [.ref (r1 7), .int 7, .ref (b 4)]) (rfl) ?_
  refine va_astA hx hb hK (ao_3 hG) hP hD hS 1 9 rfl rfl (by unfold vp_in; decide) dX13_tries_32 (fun H_25 L_26 hP hD hS => ?_)
  have hP : va_P (dC, dI) vwCl [((b 3), .inl (g 4, 8, .inr (.inr (.inr (.inr (fun i => if i < 8 then some (r1 i) else none)))))), ((b 4), .inl (g 4, 8, .inr (.inr (.inr (.inr (va_up (va_up (va_up (va_up (va_up (va_up (va_up (va_up (fun i => if i < 8 then some (r2 i) else none) (0 : Int32).toNatClampNeg (some (r1 0))) (1 : Int32).toNatClampNeg (some (r1 1))) (2 : Int32).toNatClampNeg (some (r1 2))) (3 : Int32).toNatClampNeg (some (r1 3))) (4 : Int32).toNatClampNeg (some (r1 4))) (5 : Int32).toNatClampNeg (some (r1 5))) (6 : Int32).toNatClampNeg (some (r1 6))) (7 : Int32).toNatClampNeg (some (r1 7)))))))), ((r1 0), .inl (g 0, 0, .inl (fun _ => 0))), ((r1 1), .inl (g 0, 0, .inl (fun _ => 0))), ((r1 2), .inl (g 0, 0, .inl (fun _ => 0))), ((r1 3), .inl (g 0, 0, .inl (fun _ => 0))), ((r1 4), .inl (g 0, 0, .inl (fun _ => 0))), ((r1 5), .inl (g 0, 0, .inl (fun _ => 0))), ((r1 6), .inl (g 0, 0, .inl (fun _ => 0))), ((r1 7), .inl (g 0, 0, .inl (fun _ => 0))), ((b 0), .inr (15, [.int th, .ref (b 1), .ref (b 2), .int 0, .ref (b 3), .ref (b 4), .ref (b 5), .null, .ref (b 6), .int 0, .int 0, .int 0, .int 0, .int (-1)]))] H_25 := hP
  have hD : va_D A [((b 3), .inl (g 4, 8, .inr (.inr (.inr (.inr (fun i => if i < 8 then some (r1 i) else none)))))), ((b 4), .inl (g 4, 8, .inr (.inr (.inr (.inr (va_up (va_up (va_up (va_up (va_up (va_up (va_up (va_up (fun i => if i < 8 then some (r2 i) else none) (0 : Int32).toNatClampNeg (some (r1 0))) (1 : Int32).toNatClampNeg (some (r1 1))) (2 : Int32).toNatClampNeg (some (r1 2))) (3 : Int32).toNatClampNeg (some (r1 3))) (4 : Int32).toNatClampNeg (some (r1 4))) (5 : Int32).toNatClampNeg (some (r1 5))) (6 : Int32).toNatClampNeg (some (r1 6))) (7 : Int32).toNatClampNeg (some (r1 7)))))))), ((r1 0), .inl (g 0, 0, .inl (fun _ => 0))), ((r1 1), .inl (g 0, 0, .inl (fun _ => 0))), ((r1 2), .inl (g 0, 0, .inl (fun _ => 0))), ((r1 3), .inl (g 0, 0, .inl (fun _ => 0))), ((r1 4), .inl (g 0, 0, .inl (fun _ => 0))), ((r1 5), .inl (g 0, 0, .inl (fun _ => 0))), ((r1 6), .inl (g 0, 0, .inl (fun _ => 0))), ((r1 7), .inl (g 0, 0, .inl (fun _ => 0))), ((b 0), .inr (15, [.int th, .ref (b 1), .ref (b 2), .int 0, .ref (b 3), .ref (b 4), .ref (b 5), .null, .ref (b 6), .int 0, .int 0, .int 0, .int 0, .int (-1)]))] := hD
  refine lv_iinc (v := 8) (lv' := [(2, .int 8), (1, .int 0), (0, .ref (b 0))]) hx hb dX13_tries_33 hl (k := 0) rfl (by decide) (by decide) rfl (fun ls hl => ?_)
  refine lv_goto (tgt := 15) hx hb dX13_tries_36 (by decide) ?_
  refine lv_iload_n hx hb dX13_tries_15 rfl (lv_at hl 0 rfl) ?_
  refine lv_bipush (v := 8) hx hb dX13_tries_16 (by decide) ?_
  refine lv_icmp_ge (tgt := 39) hx hb dX13_tries_18 (by decide) (fun c_27 => ?_) (fun c_27 => absurd (by decide) c_27)
  refine lv_aload_n hx hb dX13_tries_39 rfl (lv_at hl 2 rfl) ?_
  refine lv_iconst (v := 1) hx hb dX13_tries_40 (by decide) ?_
  have hPc := hP.sub (ws' := [((b 0), .inr (15, [.int th, .ref (b 1), .ref (b 2), .int 0, .ref (b 3), .ref (b 4), .ref (b 5), .null, .ref (b 6), .int 0, .int 0, .int 0, .int 0, .int (-1)]))]) [10] rfl
  have hDc := hD.sub (ws' := [((b 0), .inr (15, [.int th, .ref (b 1), .ref (b 2), .int 0, .ref (b 3), .ref (b 4), .ref (b 5), .null, .ref (b 6), .int 0, .int 0, .int 0, .int 0, .int (-1)]))]) [10] (by decide) rfl
  have hFc := va_free (wc := [((b 0), .inr (15, [.int th, .ref (b 1), .ref (b 2), .int 0, .ref (b 3), .ref (b 4), .ref (b 5), .null, .ref (b 6), .int 0, .int 0, .int 0, .int 0, .int (-1)]))]) hD hS hA [10] rfl
  refine va_calli (va_runV (As := [.int 1]) (rest := []) ⟨hx, hb, hml, hown, hts⟩ (c_X13_reads l dC dI g b r1 r2 th (-1) 1  H_25.size) (cwV 1 hts gX13_tries_X13_reads rfl rfl rfl (by decide +kernel) ⟨Nat.le_of_ble_eq_true rfl, Nat.le_of_ble_eq_true rfl⟩) ⟨PG_blind, va_recv hK hP (ci := 15) (q0 := 10) rfl rfl, PG_call hK hG hS hPc hDc hFc⟩ rfl rfl hl.1 rfl (lv_room (Nat.le_of_ble_eq_true rfl)) dX13_tries_41 ⟨Nat.le_of_ble_eq_true rfl, Nat.le_of_ble_eq_true rfl⟩) hS (fun q _ h => hFc q h) hFc (fun r_28 u_28 t_28 H_28 L_28 ht_28 hvm_28 hw_28 hB_28 hz_28 hk_28 hS => ?_)
  obtain ⟨hP1, hD1⟩ := hB_28
  rw [ht_28] at hP1
  obtain ⟨hP, hD⟩ := va_join (wr := [((b 3), .inl (g 4, 8, .inr (.inr (.inr (.inr (fun i => if i < 8 then some (r1 i) else none)))))), ((b 4), .inl (g 4, 8, .inr (.inr (.inr (.inr (va_up (va_up (va_up (va_up (va_up (va_up (va_up (va_up (fun i => if i < 8 then some (r2 i) else none) (0 : Int32).toNatClampNeg (some (r1 0))) (1 : Int32).toNatClampNeg (some (r1 1))) (2 : Int32).toNatClampNeg (some (r1 2))) (3 : Int32).toNatClampNeg (some (r1 3))) (4 : Int32).toNatClampNeg (some (r1 4))) (5 : Int32).toNatClampNeg (some (r1 5))) (6 : Int32).toNatClampNeg (some (r1 6))) (7 : Int32).toNatClampNeg (some (r1 7)))))))), ((r1 0), .inl (g 0, 0, .inl (fun _ => 0))), ((r1 1), .inl (g 0, 0, .inl (fun _ => 0))), ((r1 2), .inl (g 0, 0, .inl (fun _ => 0))), ((r1 3), .inl (g 0, 0, .inl (fun _ => 0))), ((r1 4), .inl (g 0, 0, .inl (fun _ => 0))), ((r1 5), .inl (g 0, 0, .inl (fun _ => 0))), ((r1 6), .inl (g 0, 0, .inl (fun _ => 0))), ((r1 7), .inl (g 0, 0, .inl (fun _ => 0)))]) (w1 := [((b 0), .inr (15, [.int th, .ref (b 1), .ref (b 2), .int 0, .ref (b 3), .ref (b 4), .ref (b 5), .null, .ref (b 6), .int 0, .int 0, .int 0, .int 0, .int (-1)]))]) hP hD [10] [0, 1, 2, 3, 4, 5, 6, 7, 8, 9] rfl rfl (by decide) (by decide) hk_28 hFc hP1 hD1
  have hP : va_P (dC, dI) vwCl [((b 3), .inl (g 4, 8, .inr (.inr (.inr (.inr (fun i => if i < 8 then some (r1 i) else none)))))), ((b 4), .inl (g 4, 8, .inr (.inr (.inr (.inr (va_up (va_up (va_up (va_up (va_up (va_up (va_up (va_up (fun i => if i < 8 then some (r2 i) else none) (0 : Int32).toNatClampNeg (some (r1 0))) (1 : Int32).toNatClampNeg (some (r1 1))) (2 : Int32).toNatClampNeg (some (r1 2))) (3 : Int32).toNatClampNeg (some (r1 3))) (4 : Int32).toNatClampNeg (some (r1 4))) (5 : Int32).toNatClampNeg (some (r1 5))) (6 : Int32).toNatClampNeg (some (r1 6))) (7 : Int32).toNatClampNeg (some (r1 7)))))))), ((r1 0), .inl (g 0, 0, .inl (fun _ => 0))), ((r1 1), .inl (g 0, 0, .inl (fun _ => 0))), ((r1 2), .inl (g 0, 0, .inl (fun _ => 0))), ((r1 3), .inl (g 0, 0, .inl (fun _ => 0))), ((r1 4), .inl (g 0, 0, .inl (fun _ => 0))), ((r1 5), .inl (g 0, 0, .inl (fun _ => 0))), ((r1 6), .inl (g 0, 0, .inl (fun _ => 0))), ((r1 7), .inl (g 0, 0, .inl (fun _ => 0))), ((b 0), .inr (15, [.int th, .ref (b 1), .ref (b 2), .int 0, .ref (b 3), .ref (b 4), .ref (b 5), .null, .ref (b 6), .int 0, .int 0, .int 0, .int 0, .int (-1)]))] H_28 := hP
  have hD : va_D A [((b 3), .inl (g 4, 8, .inr (.inr (.inr (.inr (fun i => if i < 8 then some (r1 i) else none)))))), ((b 4), .inl (g 4, 8, .inr (.inr (.inr (.inr (va_up (va_up (va_up (va_up (va_up (va_up (va_up (va_up (fun i => if i < 8 then some (r2 i) else none) (0 : Int32).toNatClampNeg (some (r1 0))) (1 : Int32).toNatClampNeg (some (r1 1))) (2 : Int32).toNatClampNeg (some (r1 2))) (3 : Int32).toNatClampNeg (some (r1 3))) (4 : Int32).toNatClampNeg (some (r1 4))) (5 : Int32).toNatClampNeg (some (r1 5))) (6 : Int32).toNatClampNeg (some (r1 6))) (7 : Int32).toNatClampNeg (some (r1 7)))))))), ((r1 0), .inl (g 0, 0, .inl (fun _ => 0))), ((r1 1), .inl (g 0, 0, .inl (fun _ => 0))), ((r1 2), .inl (g 0, 0, .inl (fun _ => 0))), ((r1 3), .inl (g 0, 0, .inl (fun _ => 0))), ((r1 4), .inl (g 0, 0, .inl (fun _ => 0))), ((r1 5), .inl (g 0, 0, .inl (fun _ => 0))), ((r1 6), .inl (g 0, 0, .inl (fun _ => 0))), ((r1 7), .inl (g 0, 0, .inl (fun _ => 0))), ((b 0), .inr (15, [.int th, .ref (b 1), .ref (b 2), .int 0, .ref (b 3), .ref (b 4), .ref (b 5), .null, .ref (b 6), .int 0, .int 0, .int 0, .int 0, .int (-1)]))] := hD
  obtain rfl : r_28 = 0 := hw_28
  refine lv_istore_n (lv' := [(1, .int 0), (2, .int 8), (0, .ref (b 0))]) hx hb dX13_tries_44 rfl hl (by decide) rfl (fun ls hl => ?_)
  refine lv_iload_n hx hb dX13_tries_45 rfl (lv_at hl 0 rfl) ?_
  have hP9 := hP.sub (ws' := [((b 0), .inr (15, [.int th, .ref (b 1), .ref (b 2), .int 0, .ref (b 3), .ref (b 4), .ref (b 5), .null, .ref (b 6), .int 0, .int 0, .int 0, .int 0, .int (-1)])), ((b 3), .inl (g 4, 8, .inr (.inr (.inr (.inr (fun i => if i < 8 then some (r1 i) else none)))))), ((b 4), .inl (g 4, 8, .inr (.inr (.inr (.inr (va_up (va_up (va_up (va_up (va_up (va_up (va_up (va_up (fun i => if i < 8 then some (r2 i) else none) (0 : Int32).toNatClampNeg (some (r1 0))) (1 : Int32).toNatClampNeg (some (r1 1))) (2 : Int32).toNatClampNeg (some (r1 2))) (3 : Int32).toNatClampNeg (some (r1 3))) (4 : Int32).toNatClampNeg (some (r1 4))) (5 : Int32).toNatClampNeg (some (r1 5))) (6 : Int32).toNatClampNeg (some (r1 6))) (7 : Int32).toNatClampNeg (some (r1 7)))))))), ((r1 0), .inl (g 0, 0, .inl (fun _ => 0))), ((r1 1), .inl (g 0, 0, .inl (fun _ => 0))), ((r1 2), .inl (g 0, 0, .inl (fun _ => 0))), ((r1 3), .inl (g 0, 0, .inl (fun _ => 0))), ((r1 4), .inl (g 0, 0, .inl (fun _ => 0))), ((r1 5), .inl (g 0, 0, .inl (fun _ => 0))), ((r1 6), .inl (g 0, 0, .inl (fun _ => 0))), ((r1 7), .inl (g 0, 0, .inl (fun _ => 0)))]) [10, 0, 1, 2, 3, 4, 5, 6, 7, 8, 9] rfl
  have hD9 := hD.sub (ws' := [((b 0), .inr (15, [.int th, .ref (b 1), .ref (b 2), .int 0, .ref (b 3), .ref (b 4), .ref (b 5), .null, .ref (b 6), .int 0, .int 0, .int 0, .int 0, .int (-1)])), ((b 3), .inl (g 4, 8, .inr (.inr (.inr (.inr (fun i => if i < 8 then some (r1 i) else none)))))), ((b 4), .inl (g 4, 8, .inr (.inr (.inr (.inr (va_up (va_up (va_up (va_up (va_up (va_up (va_up (va_up (fun i => if i < 8 then some (r2 i) else none) (0 : Int32).toNatClampNeg (some (r1 0))) (1 : Int32).toNatClampNeg (some (r1 1))) (2 : Int32).toNatClampNeg (some (r1 2))) (3 : Int32).toNatClampNeg (some (r1 3))) (4 : Int32).toNatClampNeg (some (r1 4))) (5 : Int32).toNatClampNeg (some (r1 5))) (6 : Int32).toNatClampNeg (some (r1 6))) (7 : Int32).toNatClampNeg (some (r1 7)))))))), ((r1 0), .inl (g 0, 0, .inl (fun _ => 0))), ((r1 1), .inl (g 0, 0, .inl (fun _ => 0))), ((r1 2), .inl (g 0, 0, .inl (fun _ => 0))), ((r1 3), .inl (g 0, 0, .inl (fun _ => 0))), ((r1 4), .inl (g 0, 0, .inl (fun _ => 0))), ((r1 5), .inl (g 0, 0, .inl (fun _ => 0))), ((r1 6), .inl (g 0, 0, .inl (fun _ => 0))), ((r1 7), .inl (g 0, 0, .inl (fun _ => 0)))]) [10, 0, 1, 2, 3, 4, 5, 6, 7, 8, 9] (by decide) rfl
  exact W.iret (v := 0) hx hb hr (fun t ht hW => ⟨⟨0, (), rfl, rfl, ⟨P_at ht hP9, hD9⟩⟩, hS.F ht⟩) hS.2.2 dX13_tries_46
set_option maxHeartbeats 4000000 in
set_option maxRecDepth 100000 in
theorem c_X13_errorKind (l : Launch) (dC : Nat → ClassId) (dI : Nat → Nat → Nat) (g : Nat → ClassId) (b : Nat → Nat) (r1 : Nat → Nat) (r2 : Nat → Nat) (th : Int32) (sz : Nat) : Met l yX13_errorKind wsX13_errorKind ({ frames := 3, cells := 0, slots := 0, locals := 65 }) (va_Pc [.ref (b 0)] (PG (dC, dI) g (modW b r1 r2 g th) sz)) (va_Qi (fun (r : Int32) (_ : Unit) => (cd true true true) = 0 → r = 0) (fun (_ : Unit) t => ∃ fs : List Value, va_P (dC, dI) vwCl [(b 0, .inr (15, .int (cd true true true) :: fs))] t.heap) (va_A (modW b r1 r2 g th) sz)) 0 0 (va_A (modW b r1 r2 g th) sz) := by
  refine Met.ofW (cc := cX13_errorKind) (maxL := 2) (ret := (some .int)) (by decide) rfl ?_
  intro p e s m args below meth c s₁ B hml hv
  obtain ⟨rfl, hsz, hP, hK, hD0, hG⟩ := hv
  have hx := B.exec
  have hb := B.bytes
  have hr := B.returns
  have hts := atoms_spec (ws := wsX13_errorKind) B.pre
  have hown : s.vm.findClass RX13 = some m.cls := findClass_of_methodNamed B.named
  have hlocks := B.notSynchronized
  subst hsz
  have hD := hD0.self (sz := s.heap.size)
  generalize hAe : va_A (modW b r1 r2 g th) s.heap.size = A at hD hG ⊢
  have hA : ∀ q : Nat, s.heap.size ≤ q → A q := fun q h => by rw [← hAe]; exact Or.inr h
  have hS : va_S A s.heap s.heap [] := va_S.rf
  have hl := lv_entry ([.ref (b 0)]) (n := 2) (Nat.le_of_ble_eq_true rfl)
  rw [lg_entry_eq]
  generalize (lg_sl ([.ref (b 0)]) ++ List.replicate (2 - (lg_sl ([.ref (b 0)])).length) Slot.unset).toArray = ls at hl ⊢
  have hl : lv_has ls 2 [(0, .ref (b 0))] := hl
  have hf1 := hts (Cond.fieldLink RX13 1 "RunmergeOfficeModel" "thrown" "I") (by decide +kernel)
  have hiX13 : ∀ w ∈ u_ws RX13 TX13 14, w ∈ wsX13_errorKind := by decide +kernel
  have hf236 := hts (Cond.fieldLink RX13 236 "RunmergeOfficeModel" "errorKind" "I") (by decide +kernel)
  refine lv_aload_n hx hb dX13_errorKind_0 rfl (lv_at hl 0 rfl) ?_
  refine lv_iconst (v := 0) hx hb dX13_errorKind_1 (by decide) ?_
  refine va_put (D := (dC, dI)) (ci := 15) (v := .int 0) (ty := .int) (C := RX13) (T := TX13) (N := 14) hx hb hts hiX13 tyX13 tyX13_ok nmX13 hown hK hP hD hS 0 (m_0 b r1 r2 g th) rfl 0 (by decide) hf1 (fun _ h9 => h9) rfl (by decide +kernel) rfl rfl (Nat.le_of_ble_eq_true rfl) dX13_errorKind_2 (fun H_1 L_2 hP hD hS => ?_)
  have hP : va_P (dC, dI) vwCl (modW b r1 r2 g 0) H_1 := hP
  have hD : va_D A (modW b r1 r2 g 0) := hD
  have hP : va_P (dC, dI) vwCl [((b 0), .inr (15, [.int 0, .ref (b 1), .ref (b 2), .int 0, .ref (b 3), .ref (b 4), .ref (b 5), .null, .ref (b 6), .int 0, .int 0, .int 0, .int 0, .int 0])), ((b 3), .inl (g 4, 8, .inr (.inr (.inr (.inr (fun i => if i < 8 then some (r1 i) else none)))))), ((b 4), .inl (g 4, 8, .inr (.inr (.inr (.inr (fun i => if i < 8 then some (r2 i) else none)))))), ((r1 0), .inl (g 0, 0, .inl (fun _ => 0))), ((r1 1), .inl (g 0, 0, .inl (fun _ => 0))), ((r1 2), .inl (g 0, 0, .inl (fun _ => 0))), ((r1 3), .inl (g 0, 0, .inl (fun _ => 0))), ((r1 4), .inl (g 0, 0, .inl (fun _ => 0))), ((r1 5), .inl (g 0, 0, .inl (fun _ => 0))), ((r1 6), .inl (g 0, 0, .inl (fun _ => 0))), ((r1 7), .inl (g 0, 0, .inl (fun _ => 0)))] H_1 := hP.sub [0, 3, 4, 7, 8, 9, 10, 11, 12, 13, 14] rfl
  have hD : va_D A [((b 0), .inr (15, [.int 0, .ref (b 1), .ref (b 2), .int 0, .ref (b 3), .ref (b 4), .ref (b 5), .null, .ref (b 6), .int 0, .int 0, .int 0, .int 0, .int 0])), ((b 3), .inl (g 4, 8, .inr (.inr (.inr (.inr (fun i => if i < 8 then some (r1 i) else none)))))), ((b 4), .inl (g 4, 8, .inr (.inr (.inr (.inr (fun i => if i < 8 then some (r2 i) else none)))))), ((r1 0), .inl (g 0, 0, .inl (fun _ => 0))), ((r1 1), .inl (g 0, 0, .inl (fun _ => 0))), ((r1 2), .inl (g 0, 0, .inl (fun _ => 0))), ((r1 3), .inl (g 0, 0, .inl (fun _ => 0))), ((r1 4), .inl (g 0, 0, .inl (fun _ => 0))), ((r1 5), .inl (g 0, 0, .inl (fun _ => 0))), ((r1 6), .inl (g 0, 0, .inl (fun _ => 0))), ((r1 7), .inl (g 0, 0, .inl (fun _ => 0)))] := hD.sub [0, 3, 4, 7, 8, 9, 10, 11, 12, 13, 14] (by decide) rfl
  refine lv_aload_n hx hb dX13_errorKind_5 rfl (lv_at hl 0 rfl) ?_
  have hPc := hP.sub (ws' := [((b 0), .inr (15, [.int 0, .ref (b 1), .ref (b 2), .int 0, .ref (b 3), .ref (b 4), .ref (b 5), .null, .ref (b 6), .int 0, .int 0, .int 0, .int 0, .int 0])), ((b 3), .inl (g 4, 8, .inr (.inr (.inr (.inr (fun i => if i < 8 then some (r1 i) else none)))))), ((b 4), .inl (g 4, 8, .inr (.inr (.inr (.inr (fun i => if i < 8 then some (r2 i) else none)))))), ((r1 0), .inl (g 0, 0, .inl (fun _ => 0))), ((r1 1), .inl (g 0, 0, .inl (fun _ => 0))), ((r1 2), .inl (g 0, 0, .inl (fun _ => 0))), ((r1 3), .inl (g 0, 0, .inl (fun _ => 0))), ((r1 4), .inl (g 0, 0, .inl (fun _ => 0))), ((r1 5), .inl (g 0, 0, .inl (fun _ => 0))), ((r1 6), .inl (g 0, 0, .inl (fun _ => 0))), ((r1 7), .inl (g 0, 0, .inl (fun _ => 0)))]) [0, 1, 2, 3, 4, 5, 6, 7, 8, 9, 10] rfl
  have hDc := hD.sub (ws' := [((b 0), .inr (15, [.int 0, .ref (b 1), .ref (b 2), .int 0, .ref (b 3), .ref (b 4), .ref (b 5), .null, .ref (b 6), .int 0, .int 0, .int 0, .int 0, .int 0])), ((b 3), .inl (g 4, 8, .inr (.inr (.inr (.inr (fun i => if i < 8 then some (r1 i) else none)))))), ((b 4), .inl (g 4, 8, .inr (.inr (.inr (.inr (fun i => if i < 8 then some (r2 i) else none)))))), ((r1 0), .inl (g 0, 0, .inl (fun _ => 0))), ((r1 1), .inl (g 0, 0, .inl (fun _ => 0))), ((r1 2), .inl (g 0, 0, .inl (fun _ => 0))), ((r1 3), .inl (g 0, 0, .inl (fun _ => 0))), ((r1 4), .inl (g 0, 0, .inl (fun _ => 0))), ((r1 5), .inl (g 0, 0, .inl (fun _ => 0))), ((r1 6), .inl (g 0, 0, .inl (fun _ => 0))), ((r1 7), .inl (g 0, 0, .inl (fun _ => 0)))]) [0, 1, 2, 3, 4, 5, 6, 7, 8, 9, 10] (by decide) rfl
  have hFc := va_free (wc := [((b 0), .inr (15, [.int 0, .ref (b 1), .ref (b 2), .int 0, .ref (b 3), .ref (b 4), .ref (b 5), .null, .ref (b 6), .int 0, .int 0, .int 0, .int 0, .int 0])), ((b 3), .inl (g 4, 8, .inr (.inr (.inr (.inr (fun i => if i < 8 then some (r1 i) else none)))))), ((b 4), .inl (g 4, 8, .inr (.inr (.inr (.inr (fun i => if i < 8 then some (r2 i) else none)))))), ((r1 0), .inl (g 0, 0, .inl (fun _ => 0))), ((r1 1), .inl (g 0, 0, .inl (fun _ => 0))), ((r1 2), .inl (g 0, 0, .inl (fun _ => 0))), ((r1 3), .inl (g 0, 0, .inl (fun _ => 0))), ((r1 4), .inl (g 0, 0, .inl (fun _ => 0))), ((r1 5), .inl (g 0, 0, .inl (fun _ => 0))), ((r1 6), .inl (g 0, 0, .inl (fun _ => 0))), ((r1 7), .inl (g 0, 0, .inl (fun _ => 0)))]) hD hS hA [0, 1, 2, 3, 4, 5, 6, 7, 8, 9, 10] rfl
  refine va_calli (va_runV (As := []) (rest := []) ⟨hx, hb, hml, hown, hts⟩ (c_X13_tries l dC dI g b r1 r2 0 0  H_1.size) (cwV 0 hts gX13_errorKind_X13_tries rfl rfl rfl (by decide +kernel) ⟨Nat.le_of_ble_eq_true rfl, Nat.le_of_ble_eq_true rfl⟩) ⟨PG_blind, va_recv hK hP (ci := 15) (q0 := 0) rfl rfl, PG_call hK hG hS hPc hDc hFc⟩ rfl rfl hl.1 rfl (lv_room (Nat.le_of_ble_eq_true rfl)) dX13_errorKind_6 ⟨Nat.le_of_ble_eq_true rfl, Nat.le_of_ble_eq_true rfl⟩) hS (fun q _ h => hFc q h) hFc (fun r_3 u_3 t_3 H_3 L_3 ht_3 hvm_3 hw_3 hB_3 hz_3 hk_3 hS => ?_)
  obtain ⟨hP1, hD1⟩ := hB_3
  rw [ht_3] at hP1
  obtain ⟨hP, hD⟩ := va_join (wr := []) (w1 := [((b 0), .inr (15, [.int 0, .ref (b 1), .ref (b 2), .int 0, .ref (b 3), .ref (b 4), .ref (b 5), .null, .ref (b 6), .int 0, .int 0, .int 0, .int 0, .int (-1)])), ((b 3), .inl (g 4, 8, .inr (.inr (.inr (.inr (fun i => if i < 8 then some (r1 i) else none)))))), ((b 4), .inl (g 4, 8, .inr (.inr (.inr (.inr (va_up (va_up (va_up (va_up (va_up (va_up (va_up (va_up (fun i => if i < 8 then some (r2 i) else none) (0 : Int32).toNatClampNeg (some (r1 0))) (1 : Int32).toNatClampNeg (some (r1 1))) (2 : Int32).toNatClampNeg (some (r1 2))) (3 : Int32).toNatClampNeg (some (r1 3))) (4 : Int32).toNatClampNeg (some (r1 4))) (5 : Int32).toNatClampNeg (some (r1 5))) (6 : Int32).toNatClampNeg (some (r1 6))) (7 : Int32).toNatClampNeg (some (r1 7)))))))), ((r1 0), .inl (g 0, 0, .inl (fun _ => 0))), ((r1 1), .inl (g 0, 0, .inl (fun _ => 0))), ((r1 2), .inl (g 0, 0, .inl (fun _ => 0))), ((r1 3), .inl (g 0, 0, .inl (fun _ => 0))), ((r1 4), .inl (g 0, 0, .inl (fun _ => 0))), ((r1 5), .inl (g 0, 0, .inl (fun _ => 0))), ((r1 6), .inl (g 0, 0, .inl (fun _ => 0))), ((r1 7), .inl (g 0, 0, .inl (fun _ => 0)))]) hP hD [0, 1, 2, 3, 4, 5, 6, 7, 8, 9, 10] [] rfl rfl (by decide) (by decide) hk_3 hFc hP1 hD1
  have hP : va_P (dC, dI) vwCl [((b 0), .inr (15, [.int 0, .ref (b 1), .ref (b 2), .int 0, .ref (b 3), .ref (b 4), .ref (b 5), .null, .ref (b 6), .int 0, .int 0, .int 0, .int 0, .int (-1)])), ((b 3), .inl (g 4, 8, .inr (.inr (.inr (.inr (fun i => if i < 8 then some (r1 i) else none)))))), ((b 4), .inl (g 4, 8, .inr (.inr (.inr (.inr (va_up (va_up (va_up (va_up (va_up (va_up (va_up (va_up (fun i => if i < 8 then some (r2 i) else none) (0 : Int32).toNatClampNeg (some (r1 0))) (1 : Int32).toNatClampNeg (some (r1 1))) (2 : Int32).toNatClampNeg (some (r1 2))) (3 : Int32).toNatClampNeg (some (r1 3))) (4 : Int32).toNatClampNeg (some (r1 4))) (5 : Int32).toNatClampNeg (some (r1 5))) (6 : Int32).toNatClampNeg (some (r1 6))) (7 : Int32).toNatClampNeg (some (r1 7)))))))), ((r1 0), .inl (g 0, 0, .inl (fun _ => 0))), ((r1 1), .inl (g 0, 0, .inl (fun _ => 0))), ((r1 2), .inl (g 0, 0, .inl (fun _ => 0))), ((r1 3), .inl (g 0, 0, .inl (fun _ => 0))), ((r1 4), .inl (g 0, 0, .inl (fun _ => 0))), ((r1 5), .inl (g 0, 0, .inl (fun _ => 0))), ((r1 6), .inl (g 0, 0, .inl (fun _ => 0))), ((r1 7), .inl (g 0, 0, .inl (fun _ => 0)))] H_3 := hP
  have hD : va_D A [((b 0), .inr (15, [.int 0, .ref (b 1), .ref (b 2), .int 0, .ref (b 3), .ref (b 4), .ref (b 5), .null, .ref (b 6), .int 0, .int 0, .int 0, .int 0, .int (-1)])), ((b 3), .inl (g 4, 8, .inr (.inr (.inr (.inr (fun i => if i < 8 then some (r1 i) else none)))))), ((b 4), .inl (g 4, 8, .inr (.inr (.inr (.inr (va_up (va_up (va_up (va_up (va_up (va_up (va_up (va_up (fun i => if i < 8 then some (r2 i) else none) (0 : Int32).toNatClampNeg (some (r1 0))) (1 : Int32).toNatClampNeg (some (r1 1))) (2 : Int32).toNatClampNeg (some (r1 2))) (3 : Int32).toNatClampNeg (some (r1 3))) (4 : Int32).toNatClampNeg (some (r1 4))) (5 : Int32).toNatClampNeg (some (r1 5))) (6 : Int32).toNatClampNeg (some (r1 6))) (7 : Int32).toNatClampNeg (some (r1 7)))))))), ((r1 0), .inl (g 0, 0, .inl (fun _ => 0))), ((r1 1), .inl (g 0, 0, .inl (fun _ => 0))), ((r1 2), .inl (g 0, 0, .inl (fun _ => 0))), ((r1 3), .inl (g 0, 0, .inl (fun _ => 0))), ((r1 4), .inl (g 0, 0, .inl (fun _ => 0))), ((r1 5), .inl (g 0, 0, .inl (fun _ => 0))), ((r1 6), .inl (g 0, 0, .inl (fun _ => 0))), ((r1 7), .inl (g 0, 0, .inl (fun _ => 0)))] := hD
  obtain rfl : r_3 = 0 := hw_3
  refine lv_istore_n (lv' := [(1, .int 0), (0, .ref (b 0))]) hx hb dX13_errorKind_9 rfl hl (by decide) rfl (fun ls hl => ?_)
  refine lv_aload_n hx hb dX13_errorKind_10 rfl (lv_at hl 1 rfl) ?_
  refine va_get (D := (dC, dI)) (ci := 15) (v := .int 0) (C := RX13) (T := TX13) (N := 14) hx hb hts hiX13 hown hK hP 0 rfl rfl 12 (by decide) hf236 (fun _ h9 => h9) rfl dX13_errorKind_11 ?_
  have hcd : 0 = (cd true true true) := by simp [cd]
  have hP8 := hP.sub (ws' := [((b 0), .inr (15, [.int 0, .ref (b 1), .ref (b 2), .int 0, .ref (b 3), .ref (b 4), .ref (b 5), .null, .ref (b 6), .int 0, .int 0, .int 0, .int 0, .int (-1)]))]) [0] rfl
  rw [hcd] at hP8
  exact W.iret (v := 0) hx hb hr (fun t ht hW => ⟨⟨0, (), rfl, (fun h => by first | rfl | (exact absurd (cd_0.mp h) (by simp []))), ⟨[.ref (b 1), .ref (b 2), .int 0, .ref (b 3), .ref (b 4), .ref (b 5), .null, .ref (b 6), .int 0, .int 0, .int 0, .int 0, .int (-1)], P_at ht hP8⟩⟩, hS.F ht⟩) hS.2.2 dX13_errorKind_14
set_option maxHeartbeats 4000000 in
set_option maxRecDepth 100000 in
theorem c_X13_errorPlace (l : Launch) (dC : Nat → ClassId) (dI : Nat → Nat → Nat) (g : Nat → ClassId) (b : Nat → Nat) (r1 : Nat → Nat) (r2 : Nat → Nat) (th : Int32) (sz : Nat) : Met l yX13_errorPlace wsX13_errorPlace ({ frames := 3, cells := 0, slots := 0, locals := 65 }) (va_Pc [.ref (b 0)] (PG (dC, dI) g (modW b r1 r2 g th) sz)) (va_Qi (fun (r : Int32) (_ : Unit) => (cd true true true) = 0 → r = -1) (fun (_ : Unit) t => ∃ fs : List Value, va_P (dC, dI) vwCl [(b 0, .inr (15, .int (cd true true true) :: fs))] t.heap) (va_A (modW b r1 r2 g th) sz)) 0 0 (va_A (modW b r1 r2 g th) sz) := by
  refine Met.ofW (cc := cX13_errorPlace) (maxL := 2) (ret := (some .int)) (by decide) rfl ?_
  intro p e s m args below meth c s₁ B hml hv
  obtain ⟨rfl, hsz, hP, hK, hD0, hG⟩ := hv
  have hx := B.exec
  have hb := B.bytes
  have hr := B.returns
  have hts := atoms_spec (ws := wsX13_errorPlace) B.pre
  have hown : s.vm.findClass RX13 = some m.cls := findClass_of_methodNamed B.named
  have hlocks := B.notSynchronized
  subst hsz
  have hD := hD0.self (sz := s.heap.size)
  generalize hAe : va_A (modW b r1 r2 g th) s.heap.size = A at hD hG ⊢
  have hA : ∀ q : Nat, s.heap.size ≤ q → A q := fun q h => by rw [← hAe]; exact Or.inr h
  have hS : va_S A s.heap s.heap [] := va_S.rf
  have hl := lv_entry ([.ref (b 0)]) (n := 2) (Nat.le_of_ble_eq_true rfl)
  rw [lg_entry_eq]
  generalize (lg_sl ([.ref (b 0)]) ++ List.replicate (2 - (lg_sl ([.ref (b 0)])).length) Slot.unset).toArray = ls at hl ⊢
  have hl : lv_has ls 2 [(0, .ref (b 0))] := hl
  have hf1 := hts (Cond.fieldLink RX13 1 "RunmergeOfficeModel" "thrown" "I") (by decide +kernel)
  have hiX13 : ∀ w ∈ u_ws RX13 TX13 14, w ∈ wsX13_errorPlace := by decide +kernel
  have hf239 := hts (Cond.fieldLink RX13 239 "RunmergeOfficeModel" "errorPlace" "I") (by decide +kernel)
  refine lv_aload_n hx hb dX13_errorPlace_0 rfl (lv_at hl 0 rfl) ?_
  refine lv_iconst (v := 0) hx hb dX13_errorPlace_1 (by decide) ?_
  refine va_put (D := (dC, dI)) (ci := 15) (v := .int 0) (ty := .int) (C := RX13) (T := TX13) (N := 14) hx hb hts hiX13 tyX13 tyX13_ok nmX13 hown hK hP hD hS 0 (m_0 b r1 r2 g th) rfl 0 (by decide) hf1 (fun _ h9 => h9) rfl (by decide +kernel) rfl rfl (Nat.le_of_ble_eq_true rfl) dX13_errorPlace_2 (fun H_1 L_2 hP hD hS => ?_)
  have hP : va_P (dC, dI) vwCl (modW b r1 r2 g 0) H_1 := hP
  have hD : va_D A (modW b r1 r2 g 0) := hD
  have hP : va_P (dC, dI) vwCl [((b 0), .inr (15, [.int 0, .ref (b 1), .ref (b 2), .int 0, .ref (b 3), .ref (b 4), .ref (b 5), .null, .ref (b 6), .int 0, .int 0, .int 0, .int 0, .int 0])), ((b 3), .inl (g 4, 8, .inr (.inr (.inr (.inr (fun i => if i < 8 then some (r1 i) else none)))))), ((b 4), .inl (g 4, 8, .inr (.inr (.inr (.inr (fun i => if i < 8 then some (r2 i) else none)))))), ((r1 0), .inl (g 0, 0, .inl (fun _ => 0))), ((r1 1), .inl (g 0, 0, .inl (fun _ => 0))), ((r1 2), .inl (g 0, 0, .inl (fun _ => 0))), ((r1 3), .inl (g 0, 0, .inl (fun _ => 0))), ((r1 4), .inl (g 0, 0, .inl (fun _ => 0))), ((r1 5), .inl (g 0, 0, .inl (fun _ => 0))), ((r1 6), .inl (g 0, 0, .inl (fun _ => 0))), ((r1 7), .inl (g 0, 0, .inl (fun _ => 0)))] H_1 := hP.sub [0, 3, 4, 7, 8, 9, 10, 11, 12, 13, 14] rfl
  have hD : va_D A [((b 0), .inr (15, [.int 0, .ref (b 1), .ref (b 2), .int 0, .ref (b 3), .ref (b 4), .ref (b 5), .null, .ref (b 6), .int 0, .int 0, .int 0, .int 0, .int 0])), ((b 3), .inl (g 4, 8, .inr (.inr (.inr (.inr (fun i => if i < 8 then some (r1 i) else none)))))), ((b 4), .inl (g 4, 8, .inr (.inr (.inr (.inr (fun i => if i < 8 then some (r2 i) else none)))))), ((r1 0), .inl (g 0, 0, .inl (fun _ => 0))), ((r1 1), .inl (g 0, 0, .inl (fun _ => 0))), ((r1 2), .inl (g 0, 0, .inl (fun _ => 0))), ((r1 3), .inl (g 0, 0, .inl (fun _ => 0))), ((r1 4), .inl (g 0, 0, .inl (fun _ => 0))), ((r1 5), .inl (g 0, 0, .inl (fun _ => 0))), ((r1 6), .inl (g 0, 0, .inl (fun _ => 0))), ((r1 7), .inl (g 0, 0, .inl (fun _ => 0)))] := hD.sub [0, 3, 4, 7, 8, 9, 10, 11, 12, 13, 14] (by decide) rfl
  refine lv_aload_n hx hb dX13_errorPlace_5 rfl (lv_at hl 0 rfl) ?_
  have hPc := hP.sub (ws' := [((b 0), .inr (15, [.int 0, .ref (b 1), .ref (b 2), .int 0, .ref (b 3), .ref (b 4), .ref (b 5), .null, .ref (b 6), .int 0, .int 0, .int 0, .int 0, .int 0])), ((b 3), .inl (g 4, 8, .inr (.inr (.inr (.inr (fun i => if i < 8 then some (r1 i) else none)))))), ((b 4), .inl (g 4, 8, .inr (.inr (.inr (.inr (fun i => if i < 8 then some (r2 i) else none)))))), ((r1 0), .inl (g 0, 0, .inl (fun _ => 0))), ((r1 1), .inl (g 0, 0, .inl (fun _ => 0))), ((r1 2), .inl (g 0, 0, .inl (fun _ => 0))), ((r1 3), .inl (g 0, 0, .inl (fun _ => 0))), ((r1 4), .inl (g 0, 0, .inl (fun _ => 0))), ((r1 5), .inl (g 0, 0, .inl (fun _ => 0))), ((r1 6), .inl (g 0, 0, .inl (fun _ => 0))), ((r1 7), .inl (g 0, 0, .inl (fun _ => 0)))]) [0, 1, 2, 3, 4, 5, 6, 7, 8, 9, 10] rfl
  have hDc := hD.sub (ws' := [((b 0), .inr (15, [.int 0, .ref (b 1), .ref (b 2), .int 0, .ref (b 3), .ref (b 4), .ref (b 5), .null, .ref (b 6), .int 0, .int 0, .int 0, .int 0, .int 0])), ((b 3), .inl (g 4, 8, .inr (.inr (.inr (.inr (fun i => if i < 8 then some (r1 i) else none)))))), ((b 4), .inl (g 4, 8, .inr (.inr (.inr (.inr (fun i => if i < 8 then some (r2 i) else none)))))), ((r1 0), .inl (g 0, 0, .inl (fun _ => 0))), ((r1 1), .inl (g 0, 0, .inl (fun _ => 0))), ((r1 2), .inl (g 0, 0, .inl (fun _ => 0))), ((r1 3), .inl (g 0, 0, .inl (fun _ => 0))), ((r1 4), .inl (g 0, 0, .inl (fun _ => 0))), ((r1 5), .inl (g 0, 0, .inl (fun _ => 0))), ((r1 6), .inl (g 0, 0, .inl (fun _ => 0))), ((r1 7), .inl (g 0, 0, .inl (fun _ => 0)))]) [0, 1, 2, 3, 4, 5, 6, 7, 8, 9, 10] (by decide) rfl
  have hFc := va_free (wc := [((b 0), .inr (15, [.int 0, .ref (b 1), .ref (b 2), .int 0, .ref (b 3), .ref (b 4), .ref (b 5), .null, .ref (b 6), .int 0, .int 0, .int 0, .int 0, .int 0])), ((b 3), .inl (g 4, 8, .inr (.inr (.inr (.inr (fun i => if i < 8 then some (r1 i) else none)))))), ((b 4), .inl (g 4, 8, .inr (.inr (.inr (.inr (fun i => if i < 8 then some (r2 i) else none)))))), ((r1 0), .inl (g 0, 0, .inl (fun _ => 0))), ((r1 1), .inl (g 0, 0, .inl (fun _ => 0))), ((r1 2), .inl (g 0, 0, .inl (fun _ => 0))), ((r1 3), .inl (g 0, 0, .inl (fun _ => 0))), ((r1 4), .inl (g 0, 0, .inl (fun _ => 0))), ((r1 5), .inl (g 0, 0, .inl (fun _ => 0))), ((r1 6), .inl (g 0, 0, .inl (fun _ => 0))), ((r1 7), .inl (g 0, 0, .inl (fun _ => 0)))]) hD hS hA [0, 1, 2, 3, 4, 5, 6, 7, 8, 9, 10] rfl
  refine va_calli (va_runV (As := []) (rest := []) ⟨hx, hb, hml, hown, hts⟩ (c_X13_tries l dC dI g b r1 r2 0 0  H_1.size) (cwV 0 hts gX13_errorPlace_X13_tries rfl rfl rfl (by decide +kernel) ⟨Nat.le_of_ble_eq_true rfl, Nat.le_of_ble_eq_true rfl⟩) ⟨PG_blind, va_recv hK hP (ci := 15) (q0 := 0) rfl rfl, PG_call hK hG hS hPc hDc hFc⟩ rfl rfl hl.1 rfl (lv_room (Nat.le_of_ble_eq_true rfl)) dX13_errorPlace_6 ⟨Nat.le_of_ble_eq_true rfl, Nat.le_of_ble_eq_true rfl⟩) hS (fun q _ h => hFc q h) hFc (fun r_3 u_3 t_3 H_3 L_3 ht_3 hvm_3 hw_3 hB_3 hz_3 hk_3 hS => ?_)
  obtain ⟨hP1, hD1⟩ := hB_3
  rw [ht_3] at hP1
  obtain ⟨hP, hD⟩ := va_join (wr := []) (w1 := [((b 0), .inr (15, [.int 0, .ref (b 1), .ref (b 2), .int 0, .ref (b 3), .ref (b 4), .ref (b 5), .null, .ref (b 6), .int 0, .int 0, .int 0, .int 0, .int (-1)])), ((b 3), .inl (g 4, 8, .inr (.inr (.inr (.inr (fun i => if i < 8 then some (r1 i) else none)))))), ((b 4), .inl (g 4, 8, .inr (.inr (.inr (.inr (va_up (va_up (va_up (va_up (va_up (va_up (va_up (va_up (fun i => if i < 8 then some (r2 i) else none) (0 : Int32).toNatClampNeg (some (r1 0))) (1 : Int32).toNatClampNeg (some (r1 1))) (2 : Int32).toNatClampNeg (some (r1 2))) (3 : Int32).toNatClampNeg (some (r1 3))) (4 : Int32).toNatClampNeg (some (r1 4))) (5 : Int32).toNatClampNeg (some (r1 5))) (6 : Int32).toNatClampNeg (some (r1 6))) (7 : Int32).toNatClampNeg (some (r1 7)))))))), ((r1 0), .inl (g 0, 0, .inl (fun _ => 0))), ((r1 1), .inl (g 0, 0, .inl (fun _ => 0))), ((r1 2), .inl (g 0, 0, .inl (fun _ => 0))), ((r1 3), .inl (g 0, 0, .inl (fun _ => 0))), ((r1 4), .inl (g 0, 0, .inl (fun _ => 0))), ((r1 5), .inl (g 0, 0, .inl (fun _ => 0))), ((r1 6), .inl (g 0, 0, .inl (fun _ => 0))), ((r1 7), .inl (g 0, 0, .inl (fun _ => 0)))]) hP hD [0, 1, 2, 3, 4, 5, 6, 7, 8, 9, 10] [] rfl rfl (by decide) (by decide) hk_3 hFc hP1 hD1
  have hP : va_P (dC, dI) vwCl [((b 0), .inr (15, [.int 0, .ref (b 1), .ref (b 2), .int 0, .ref (b 3), .ref (b 4), .ref (b 5), .null, .ref (b 6), .int 0, .int 0, .int 0, .int 0, .int (-1)])), ((b 3), .inl (g 4, 8, .inr (.inr (.inr (.inr (fun i => if i < 8 then some (r1 i) else none)))))), ((b 4), .inl (g 4, 8, .inr (.inr (.inr (.inr (va_up (va_up (va_up (va_up (va_up (va_up (va_up (va_up (fun i => if i < 8 then some (r2 i) else none) (0 : Int32).toNatClampNeg (some (r1 0))) (1 : Int32).toNatClampNeg (some (r1 1))) (2 : Int32).toNatClampNeg (some (r1 2))) (3 : Int32).toNatClampNeg (some (r1 3))) (4 : Int32).toNatClampNeg (some (r1 4))) (5 : Int32).toNatClampNeg (some (r1 5))) (6 : Int32).toNatClampNeg (some (r1 6))) (7 : Int32).toNatClampNeg (some (r1 7)))))))), ((r1 0), .inl (g 0, 0, .inl (fun _ => 0))), ((r1 1), .inl (g 0, 0, .inl (fun _ => 0))), ((r1 2), .inl (g 0, 0, .inl (fun _ => 0))), ((r1 3), .inl (g 0, 0, .inl (fun _ => 0))), ((r1 4), .inl (g 0, 0, .inl (fun _ => 0))), ((r1 5), .inl (g 0, 0, .inl (fun _ => 0))), ((r1 6), .inl (g 0, 0, .inl (fun _ => 0))), ((r1 7), .inl (g 0, 0, .inl (fun _ => 0)))] H_3 := hP
  have hD : va_D A [((b 0), .inr (15, [.int 0, .ref (b 1), .ref (b 2), .int 0, .ref (b 3), .ref (b 4), .ref (b 5), .null, .ref (b 6), .int 0, .int 0, .int 0, .int 0, .int (-1)])), ((b 3), .inl (g 4, 8, .inr (.inr (.inr (.inr (fun i => if i < 8 then some (r1 i) else none)))))), ((b 4), .inl (g 4, 8, .inr (.inr (.inr (.inr (va_up (va_up (va_up (va_up (va_up (va_up (va_up (va_up (fun i => if i < 8 then some (r2 i) else none) (0 : Int32).toNatClampNeg (some (r1 0))) (1 : Int32).toNatClampNeg (some (r1 1))) (2 : Int32).toNatClampNeg (some (r1 2))) (3 : Int32).toNatClampNeg (some (r1 3))) (4 : Int32).toNatClampNeg (some (r1 4))) (5 : Int32).toNatClampNeg (some (r1 5))) (6 : Int32).toNatClampNeg (some (r1 6))) (7 : Int32).toNatClampNeg (some (r1 7)))))))), ((r1 0), .inl (g 0, 0, .inl (fun _ => 0))), ((r1 1), .inl (g 0, 0, .inl (fun _ => 0))), ((r1 2), .inl (g 0, 0, .inl (fun _ => 0))), ((r1 3), .inl (g 0, 0, .inl (fun _ => 0))), ((r1 4), .inl (g 0, 0, .inl (fun _ => 0))), ((r1 5), .inl (g 0, 0, .inl (fun _ => 0))), ((r1 6), .inl (g 0, 0, .inl (fun _ => 0))), ((r1 7), .inl (g 0, 0, .inl (fun _ => 0)))] := hD
  obtain rfl : r_3 = 0 := hw_3
  refine lv_istore_n (lv' := [(1, .int 0), (0, .ref (b 0))]) hx hb dX13_errorPlace_9 rfl hl (by decide) rfl (fun ls hl => ?_)
  refine lv_aload_n hx hb dX13_errorPlace_10 rfl (lv_at hl 1 rfl) ?_
  refine va_get (D := (dC, dI)) (ci := 15) (v := .int (-1)) (C := RX13) (T := TX13) (N := 14) hx hb hts hiX13 hown hK hP 0 rfl rfl 13 (by decide) hf239 (fun _ h9 => h9) rfl dX13_errorPlace_11 ?_
  have hcd : 0 = (cd true true true) := by simp [cd]
  have hP8 := hP.sub (ws' := [((b 0), .inr (15, [.int 0, .ref (b 1), .ref (b 2), .int 0, .ref (b 3), .ref (b 4), .ref (b 5), .null, .ref (b 6), .int 0, .int 0, .int 0, .int 0, .int (-1)]))]) [0] rfl
  rw [hcd] at hP8
  exact W.iret (v := (-1)) hx hb hr (fun t ht hW => ⟨⟨(-1), (), rfl, (fun h => by first | rfl | (exact absurd (cd_0.mp h) (by simp []))), ⟨[.ref (b 1), .ref (b 2), .int 0, .ref (b 3), .ref (b 4), .ref (b 5), .null, .ref (b 6), .int 0, .int 0, .int 0, .int 0, .int (-1)], P_at ht hP8⟩⟩, hS.F ht⟩) hS.2.2 dX13_errorPlace_14
set_option maxHeartbeats 4000000 in
set_option maxRecDepth 100000 in
theorem c_X13_run (l : Launch) (dC : Nat → ClassId) (dI : Nat → Nat → Nat) (g : Nat → ClassId) (b : Nat → Nat) (r1 : Nat → Nat) (r2 : Nat → Nat) (th : Int32) (sz : Nat) : Met l yX13_run wsX13_run ({ frames := 3, cells := 0, slots := 0, locals := 65 }) (va_Pc [.ref (b 0)] (PG (dC, dI) g (modW b r1 r2 g th) sz)) (va_Qi (fun (r : Int32) (_ : Unit) => (cd true true true) = 0 → r = 0) (fun (_ : Unit) t => ∃ fs : List Value, va_P (dC, dI) vwCl [(b 0, .inr (15, .int (cd true true true) :: fs))] t.heap) (va_A (modW b r1 r2 g th) sz)) 0 0 (va_A (modW b r1 r2 g th) sz) := by
  refine Met.ofW (cc := cX13_run) (maxL := 3) (ret := (some .int)) (by decide) rfl ?_
  intro p e s m args below meth c s₁ B hml hv
  obtain ⟨rfl, hsz, hP, hK, hD0, hG⟩ := hv
  have hx := B.exec
  have hb := B.bytes
  have hr := B.returns
  have hts := atoms_spec (ws := wsX13_run) B.pre
  have hown : s.vm.findClass RX13 = some m.cls := findClass_of_methodNamed B.named
  have hlocks := B.notSynchronized
  subst hsz
  have hD := hD0.self (sz := s.heap.size)
  generalize hAe : va_A (modW b r1 r2 g th) s.heap.size = A at hD hG ⊢
  have hA : ∀ q : Nat, s.heap.size ≤ q → A q := fun q h => by rw [← hAe]; exact Or.inr h
  have hS : va_S A s.heap s.heap [] := va_S.rf
  have hl := lv_entry ([.ref (b 0)]) (n := 3) (Nat.le_of_ble_eq_true rfl)
  rw [lg_entry_eq]
  generalize (lg_sl ([.ref (b 0)]) ++ List.replicate (3 - (lg_sl ([.ref (b 0)])).length) Slot.unset).toArray = ls at hl ⊢
  have hl : lv_has ls 3 [(0, .ref (b 0))] := hl
  have hf236 := hts (Cond.fieldLink RX13 236 "RunmergeOfficeModel" "errorKind" "I") (by decide +kernel)
  have hiX13 : ∀ w ∈ u_ws RX13 TX13 14, w ∈ wsX13_run := by decide +kernel
  have hf29 := hts (Cond.fieldLink RX13 29 "RunmergeOfficeModel" "tapes" "[[I") (by decide +kernel)
  have hf32 := hts (Cond.fieldLink RX13 32 "RunmergeOfficeModel" "trial" "[[I") (by decide +kernel)
  have hP : va_P (dC, dI) vwCl [((b 0), .inr (15, [.int th, .ref (b 1), .ref (b 2), .int 0, .ref (b 3), .ref (b 4), .ref (b 5), .null, .ref (b 6), .int 0, .int 0, .int 0, .int 0, .int 0])), ((b 3), .inl (g 4, 8, .inr (.inr (.inr (.inr (fun i => if i < 8 then some (r1 i) else none)))))), ((b 4), .inl (g 4, 8, .inr (.inr (.inr (.inr (fun i => if i < 8 then some (r2 i) else none)))))), ((r1 0), .inl (g 0, 0, .inl (fun _ => 0))), ((r1 1), .inl (g 0, 0, .inl (fun _ => 0))), ((r1 2), .inl (g 0, 0, .inl (fun _ => 0))), ((r1 3), .inl (g 0, 0, .inl (fun _ => 0))), ((r1 4), .inl (g 0, 0, .inl (fun _ => 0))), ((r1 5), .inl (g 0, 0, .inl (fun _ => 0))), ((r1 6), .inl (g 0, 0, .inl (fun _ => 0))), ((r1 7), .inl (g 0, 0, .inl (fun _ => 0)))] s.heap := hP.sub [0, 3, 4, 7, 8, 9, 10, 11, 12, 13, 14] rfl
  have hD : va_D A [((b 0), .inr (15, [.int th, .ref (b 1), .ref (b 2), .int 0, .ref (b 3), .ref (b 4), .ref (b 5), .null, .ref (b 6), .int 0, .int 0, .int 0, .int 0, .int 0])), ((b 3), .inl (g 4, 8, .inr (.inr (.inr (.inr (fun i => if i < 8 then some (r1 i) else none)))))), ((b 4), .inl (g 4, 8, .inr (.inr (.inr (.inr (fun i => if i < 8 then some (r2 i) else none)))))), ((r1 0), .inl (g 0, 0, .inl (fun _ => 0))), ((r1 1), .inl (g 0, 0, .inl (fun _ => 0))), ((r1 2), .inl (g 0, 0, .inl (fun _ => 0))), ((r1 3), .inl (g 0, 0, .inl (fun _ => 0))), ((r1 4), .inl (g 0, 0, .inl (fun _ => 0))), ((r1 5), .inl (g 0, 0, .inl (fun _ => 0))), ((r1 6), .inl (g 0, 0, .inl (fun _ => 0))), ((r1 7), .inl (g 0, 0, .inl (fun _ => 0)))] := hD.sub [0, 3, 4, 7, 8, 9, 10, 11, 12, 13, 14] (by decide) rfl
  refine lv_aload_n hx hb dX13_run_0 rfl (lv_at hl 0 rfl) ?_
  have hPc := hP.sub (ws' := [((b 0), .inr (15, [.int th, .ref (b 1), .ref (b 2), .int 0, .ref (b 3), .ref (b 4), .ref (b 5), .null, .ref (b 6), .int 0, .int 0, .int 0, .int 0, .int 0])), ((b 3), .inl (g 4, 8, .inr (.inr (.inr (.inr (fun i => if i < 8 then some (r1 i) else none)))))), ((b 4), .inl (g 4, 8, .inr (.inr (.inr (.inr (fun i => if i < 8 then some (r2 i) else none)))))), ((r1 0), .inl (g 0, 0, .inl (fun _ => 0))), ((r1 1), .inl (g 0, 0, .inl (fun _ => 0))), ((r1 2), .inl (g 0, 0, .inl (fun _ => 0))), ((r1 3), .inl (g 0, 0, .inl (fun _ => 0))), ((r1 4), .inl (g 0, 0, .inl (fun _ => 0))), ((r1 5), .inl (g 0, 0, .inl (fun _ => 0))), ((r1 6), .inl (g 0, 0, .inl (fun _ => 0))), ((r1 7), .inl (g 0, 0, .inl (fun _ => 0)))]) [0, 1, 2, 3, 4, 5, 6, 7, 8, 9, 10] rfl
  have hDc := hD.sub (ws' := [((b 0), .inr (15, [.int th, .ref (b 1), .ref (b 2), .int 0, .ref (b 3), .ref (b 4), .ref (b 5), .null, .ref (b 6), .int 0, .int 0, .int 0, .int 0, .int 0])), ((b 3), .inl (g 4, 8, .inr (.inr (.inr (.inr (fun i => if i < 8 then some (r1 i) else none)))))), ((b 4), .inl (g 4, 8, .inr (.inr (.inr (.inr (fun i => if i < 8 then some (r2 i) else none)))))), ((r1 0), .inl (g 0, 0, .inl (fun _ => 0))), ((r1 1), .inl (g 0, 0, .inl (fun _ => 0))), ((r1 2), .inl (g 0, 0, .inl (fun _ => 0))), ((r1 3), .inl (g 0, 0, .inl (fun _ => 0))), ((r1 4), .inl (g 0, 0, .inl (fun _ => 0))), ((r1 5), .inl (g 0, 0, .inl (fun _ => 0))), ((r1 6), .inl (g 0, 0, .inl (fun _ => 0))), ((r1 7), .inl (g 0, 0, .inl (fun _ => 0)))]) [0, 1, 2, 3, 4, 5, 6, 7, 8, 9, 10] (by decide) rfl
  have hFc := va_free (wc := [((b 0), .inr (15, [.int th, .ref (b 1), .ref (b 2), .int 0, .ref (b 3), .ref (b 4), .ref (b 5), .null, .ref (b 6), .int 0, .int 0, .int 0, .int 0, .int 0])), ((b 3), .inl (g 4, 8, .inr (.inr (.inr (.inr (fun i => if i < 8 then some (r1 i) else none)))))), ((b 4), .inl (g 4, 8, .inr (.inr (.inr (.inr (fun i => if i < 8 then some (r2 i) else none)))))), ((r1 0), .inl (g 0, 0, .inl (fun _ => 0))), ((r1 1), .inl (g 0, 0, .inl (fun _ => 0))), ((r1 2), .inl (g 0, 0, .inl (fun _ => 0))), ((r1 3), .inl (g 0, 0, .inl (fun _ => 0))), ((r1 4), .inl (g 0, 0, .inl (fun _ => 0))), ((r1 5), .inl (g 0, 0, .inl (fun _ => 0))), ((r1 6), .inl (g 0, 0, .inl (fun _ => 0))), ((r1 7), .inl (g 0, 0, .inl (fun _ => 0)))]) hD hS hA [0, 1, 2, 3, 4, 5, 6, 7, 8, 9, 10] rfl
  refine va_calli (va_runV (As := []) (rest := []) ⟨hx, hb, hml, hown, hts⟩ (c_X13_tries l dC dI g b r1 r2 th 0  s.heap.size) (cwV 0 hts gX13_run_X13_tries rfl rfl rfl (by decide +kernel) ⟨Nat.le_of_ble_eq_true rfl, Nat.le_of_ble_eq_true rfl⟩) ⟨PG_blind, va_recv hK hP (ci := 15) (q0 := 0) rfl rfl, PG_call hK hG hS hPc hDc hFc⟩ rfl rfl hl.1 rfl (lv_room (Nat.le_of_ble_eq_true rfl)) dX13_run_1 ⟨Nat.le_of_ble_eq_true rfl, Nat.le_of_ble_eq_true rfl⟩) hS (fun q _ h => hFc q h) hFc (fun r_1 u_1 t_1 H_1 L_1 ht_1 hvm_1 hw_1 hB_1 hz_1 hk_1 hS => ?_)
  obtain ⟨hP1, hD1⟩ := hB_1
  rw [ht_1] at hP1
  obtain ⟨hP, hD⟩ := va_join (wr := []) (w1 := [((b 0), .inr (15, [.int th, .ref (b 1), .ref (b 2), .int 0, .ref (b 3), .ref (b 4), .ref (b 5), .null, .ref (b 6), .int 0, .int 0, .int 0, .int 0, .int (-1)])), ((b 3), .inl (g 4, 8, .inr (.inr (.inr (.inr (fun i => if i < 8 then some (r1 i) else none)))))), ((b 4), .inl (g 4, 8, .inr (.inr (.inr (.inr (va_up (va_up (va_up (va_up (va_up (va_up (va_up (va_up (fun i => if i < 8 then some (r2 i) else none) (0 : Int32).toNatClampNeg (some (r1 0))) (1 : Int32).toNatClampNeg (some (r1 1))) (2 : Int32).toNatClampNeg (some (r1 2))) (3 : Int32).toNatClampNeg (some (r1 3))) (4 : Int32).toNatClampNeg (some (r1 4))) (5 : Int32).toNatClampNeg (some (r1 5))) (6 : Int32).toNatClampNeg (some (r1 6))) (7 : Int32).toNatClampNeg (some (r1 7)))))))), ((r1 0), .inl (g 0, 0, .inl (fun _ => 0))), ((r1 1), .inl (g 0, 0, .inl (fun _ => 0))), ((r1 2), .inl (g 0, 0, .inl (fun _ => 0))), ((r1 3), .inl (g 0, 0, .inl (fun _ => 0))), ((r1 4), .inl (g 0, 0, .inl (fun _ => 0))), ((r1 5), .inl (g 0, 0, .inl (fun _ => 0))), ((r1 6), .inl (g 0, 0, .inl (fun _ => 0))), ((r1 7), .inl (g 0, 0, .inl (fun _ => 0)))]) hP hD [0, 1, 2, 3, 4, 5, 6, 7, 8, 9, 10] [] rfl rfl (by decide) (by decide) hk_1 hFc hP1 hD1
  have hP : va_P (dC, dI) vwCl [((b 0), .inr (15, [.int th, .ref (b 1), .ref (b 2), .int 0, .ref (b 3), .ref (b 4), .ref (b 5), .null, .ref (b 6), .int 0, .int 0, .int 0, .int 0, .int (-1)])), ((b 3), .inl (g 4, 8, .inr (.inr (.inr (.inr (fun i => if i < 8 then some (r1 i) else none)))))), ((b 4), .inl (g 4, 8, .inr (.inr (.inr (.inr (va_up (va_up (va_up (va_up (va_up (va_up (va_up (va_up (fun i => if i < 8 then some (r2 i) else none) (0 : Int32).toNatClampNeg (some (r1 0))) (1 : Int32).toNatClampNeg (some (r1 1))) (2 : Int32).toNatClampNeg (some (r1 2))) (3 : Int32).toNatClampNeg (some (r1 3))) (4 : Int32).toNatClampNeg (some (r1 4))) (5 : Int32).toNatClampNeg (some (r1 5))) (6 : Int32).toNatClampNeg (some (r1 6))) (7 : Int32).toNatClampNeg (some (r1 7)))))))), ((r1 0), .inl (g 0, 0, .inl (fun _ => 0))), ((r1 1), .inl (g 0, 0, .inl (fun _ => 0))), ((r1 2), .inl (g 0, 0, .inl (fun _ => 0))), ((r1 3), .inl (g 0, 0, .inl (fun _ => 0))), ((r1 4), .inl (g 0, 0, .inl (fun _ => 0))), ((r1 5), .inl (g 0, 0, .inl (fun _ => 0))), ((r1 6), .inl (g 0, 0, .inl (fun _ => 0))), ((r1 7), .inl (g 0, 0, .inl (fun _ => 0)))] H_1 := hP
  have hD : va_D A [((b 0), .inr (15, [.int th, .ref (b 1), .ref (b 2), .int 0, .ref (b 3), .ref (b 4), .ref (b 5), .null, .ref (b 6), .int 0, .int 0, .int 0, .int 0, .int (-1)])), ((b 3), .inl (g 4, 8, .inr (.inr (.inr (.inr (fun i => if i < 8 then some (r1 i) else none)))))), ((b 4), .inl (g 4, 8, .inr (.inr (.inr (.inr (va_up (va_up (va_up (va_up (va_up (va_up (va_up (va_up (fun i => if i < 8 then some (r2 i) else none) (0 : Int32).toNatClampNeg (some (r1 0))) (1 : Int32).toNatClampNeg (some (r1 1))) (2 : Int32).toNatClampNeg (some (r1 2))) (3 : Int32).toNatClampNeg (some (r1 3))) (4 : Int32).toNatClampNeg (some (r1 4))) (5 : Int32).toNatClampNeg (some (r1 5))) (6 : Int32).toNatClampNeg (some (r1 6))) (7 : Int32).toNatClampNeg (some (r1 7)))))))), ((r1 0), .inl (g 0, 0, .inl (fun _ => 0))), ((r1 1), .inl (g 0, 0, .inl (fun _ => 0))), ((r1 2), .inl (g 0, 0, .inl (fun _ => 0))), ((r1 3), .inl (g 0, 0, .inl (fun _ => 0))), ((r1 4), .inl (g 0, 0, .inl (fun _ => 0))), ((r1 5), .inl (g 0, 0, .inl (fun _ => 0))), ((r1 6), .inl (g 0, 0, .inl (fun _ => 0))), ((r1 7), .inl (g 0, 0, .inl (fun _ => 0)))] := hD
  obtain rfl : r_1 = 0 := hw_1
  refine lv_istore_n (lv' := [(1, .int 0), (0, .ref (b 0))]) hx hb dX13_run_4 rfl hl (by decide) rfl (fun ls hl => ?_)
  refine lv_aload_n hx hb dX13_run_5 rfl (lv_at hl 1 rfl) ?_
  refine lv_aload_n hx hb dX13_run_6 rfl (lv_at hl 1 rfl) ?_
  refine va_get (D := (dC, dI)) (ci := 15) (v := .int 0) (C := RX13) (T := TX13) (N := 14) hx hb hts hiX13 hown hK hP 0 rfl rfl 12 (by decide) hf236 (fun _ h9 => h9) rfl dX13_run_7 ?_
  refine lv_if_ne (tgt := 17) hx hb dX13_run_10 (by decide) (fun c_2 => absurd (by decide) c_2) (fun c_2 => ?_)
  refine lv_iconst (v := 1) hx hb dX13_run_13 (by decide) ?_
  refine lv_goto (tgt := 18) hx hb dX13_run_14 (by decide) ?_
  refine lv_iconst (v := 1) hx hb dX13_run_18 (by decide) ?_
  refine lv_iconst (v := 1) hx hb dX13_run_19 (by decide) ?_
  have hPc := hP.sub (ws' := [((b 0), .inr (15, [.int th, .ref (b 1), .ref (b 2), .int 0, .ref (b 3), .ref (b 4), .ref (b 5), .null, .ref (b 6), .int 0, .int 0, .int 0, .int 0, .int (-1)]))]) [0] rfl
  have hDc := hD.sub (ws' := [((b 0), .inr (15, [.int th, .ref (b 1), .ref (b 2), .int 0, .ref (b 3), .ref (b 4), .ref (b 5), .null, .ref (b 6), .int 0, .int 0, .int 0, .int 0, .int (-1)]))]) [0] (by decide) rfl
  have hFc := va_free (wc := [((b 0), .inr (15, [.int th, .ref (b 1), .ref (b 2), .int 0, .ref (b 3), .ref (b 4), .ref (b 5), .null, .ref (b 6), .int 0, .int 0, .int 0, .int 0, .int (-1)]))]) hD hS hA [0] rfl
  refine va_calli (va_runV (As := [.int 1, .int 1, .int 1]) (rest := []) ⟨hx, hb, hml, hown, hts⟩ (c_X13_passes_y l dC dI g b r1 r2 th true true true  H_1.size) (cwV 3 hts gX13_run_X13_passes rfl rfl rfl (by decide +kernel) ⟨Nat.le_of_ble_eq_true rfl, Nat.le_of_ble_eq_true rfl⟩) ⟨PG_blind, va_recv hK hP (ci := 15) (q0 := 0) rfl rfl, PG_call hK hG hS hPc hDc hFc⟩ rfl rfl hl.1 rfl (lv_room (Nat.le_of_ble_eq_true rfl)) dX13_run_20 ⟨Nat.le_of_ble_eq_true rfl, Nat.le_of_ble_eq_true rfl⟩) hS (fun q _ h => hFc q h) hFc (fun r_3 u_3 t_3 H_3 L_3 ht_3 hvm_3 hw_3 hB_3 hz_3 hk_3 hS => ?_)
  obtain ⟨hP1, hD1⟩ := hB_3
  rw [ht_3] at hP1
  obtain ⟨hP, hD⟩ := va_join (wr := [((b 3), .inl (g 4, 8, .inr (.inr (.inr (.inr (fun i => if i < 8 then some (r1 i) else none)))))), ((b 4), .inl (g 4, 8, .inr (.inr (.inr (.inr (va_up (va_up (va_up (va_up (va_up (va_up (va_up (va_up (fun i => if i < 8 then some (r2 i) else none) (0 : Int32).toNatClampNeg (some (r1 0))) (1 : Int32).toNatClampNeg (some (r1 1))) (2 : Int32).toNatClampNeg (some (r1 2))) (3 : Int32).toNatClampNeg (some (r1 3))) (4 : Int32).toNatClampNeg (some (r1 4))) (5 : Int32).toNatClampNeg (some (r1 5))) (6 : Int32).toNatClampNeg (some (r1 6))) (7 : Int32).toNatClampNeg (some (r1 7)))))))), ((r1 0), .inl (g 0, 0, .inl (fun _ => 0))), ((r1 1), .inl (g 0, 0, .inl (fun _ => 0))), ((r1 2), .inl (g 0, 0, .inl (fun _ => 0))), ((r1 3), .inl (g 0, 0, .inl (fun _ => 0))), ((r1 4), .inl (g 0, 0, .inl (fun _ => 0))), ((r1 5), .inl (g 0, 0, .inl (fun _ => 0))), ((r1 6), .inl (g 0, 0, .inl (fun _ => 0))), ((r1 7), .inl (g 0, 0, .inl (fun _ => 0)))]) (w1 := [((b 0), .inr (15, [.int (cd true true true), .ref (b 1), .ref (b 2), .int 0, .ref (b 3), .ref (b 4), .ref (b 5), .null, .ref (b 6), .int 0, .int 0, .int 0, .int 0, .int (-1)]))]) hP hD [0] [1, 2, 3, 4, 5, 6, 7, 8, 9, 10] rfl rfl (by decide) (by decide) hk_3 hFc hP1 hD1
  have hP : va_P (dC, dI) vwCl [((b 3), .inl (g 4, 8, .inr (.inr (.inr (.inr (fun i => if i < 8 then some (r1 i) else none)))))), ((b 4), .inl (g 4, 8, .inr (.inr (.inr (.inr (va_up (va_up (va_up (va_up (va_up (va_up (va_up (va_up (fun i => if i < 8 then some (r2 i) else none) (0 : Int32).toNatClampNeg (some (r1 0))) (1 : Int32).toNatClampNeg (some (r1 1))) (2 : Int32).toNatClampNeg (some (r1 2))) (3 : Int32).toNatClampNeg (some (r1 3))) (4 : Int32).toNatClampNeg (some (r1 4))) (5 : Int32).toNatClampNeg (some (r1 5))) (6 : Int32).toNatClampNeg (some (r1 6))) (7 : Int32).toNatClampNeg (some (r1 7)))))))), ((r1 0), .inl (g 0, 0, .inl (fun _ => 0))), ((r1 1), .inl (g 0, 0, .inl (fun _ => 0))), ((r1 2), .inl (g 0, 0, .inl (fun _ => 0))), ((r1 3), .inl (g 0, 0, .inl (fun _ => 0))), ((r1 4), .inl (g 0, 0, .inl (fun _ => 0))), ((r1 5), .inl (g 0, 0, .inl (fun _ => 0))), ((r1 6), .inl (g 0, 0, .inl (fun _ => 0))), ((r1 7), .inl (g 0, 0, .inl (fun _ => 0))), ((b 0), .inr (15, [.int (cd true true true), .ref (b 1), .ref (b 2), .int 0, .ref (b 3), .ref (b 4), .ref (b 5), .null, .ref (b 6), .int 0, .int 0, .int 0, .int 0, .int (-1)]))] H_3 := hP
  have hD : va_D A [((b 3), .inl (g 4, 8, .inr (.inr (.inr (.inr (fun i => if i < 8 then some (r1 i) else none)))))), ((b 4), .inl (g 4, 8, .inr (.inr (.inr (.inr (va_up (va_up (va_up (va_up (va_up (va_up (va_up (va_up (fun i => if i < 8 then some (r2 i) else none) (0 : Int32).toNatClampNeg (some (r1 0))) (1 : Int32).toNatClampNeg (some (r1 1))) (2 : Int32).toNatClampNeg (some (r1 2))) (3 : Int32).toNatClampNeg (some (r1 3))) (4 : Int32).toNatClampNeg (some (r1 4))) (5 : Int32).toNatClampNeg (some (r1 5))) (6 : Int32).toNatClampNeg (some (r1 6))) (7 : Int32).toNatClampNeg (some (r1 7)))))))), ((r1 0), .inl (g 0, 0, .inl (fun _ => 0))), ((r1 1), .inl (g 0, 0, .inl (fun _ => 0))), ((r1 2), .inl (g 0, 0, .inl (fun _ => 0))), ((r1 3), .inl (g 0, 0, .inl (fun _ => 0))), ((r1 4), .inl (g 0, 0, .inl (fun _ => 0))), ((r1 5), .inl (g 0, 0, .inl (fun _ => 0))), ((r1 6), .inl (g 0, 0, .inl (fun _ => 0))), ((r1 7), .inl (g 0, 0, .inl (fun _ => 0))), ((b 0), .inr (15, [.int (cd true true true), .ref (b 1), .ref (b 2), .int 0, .ref (b 3), .ref (b 4), .ref (b 5), .null, .ref (b 6), .int 0, .int 0, .int 0, .int 0, .int (-1)]))] := hD
  obtain rfl : r_3 = 1 := hw_3.trans (by simp [b2i])
  refine lv_if_ne (tgt := 28) hx hb dX13_run_23 (by decide) (fun c_4 => ?_) (fun c_4 => absurd c_4 (by decide))
  refine lv_iconst (v := 0) hx hb dX13_run_28 (by decide) ?_
  refine lv_istore_n (lv' := [(2, .int 0), (1, .int 0), (0, .ref (b 0))]) hx hb dX13_run_29 rfl hl (by decide) rfl (fun ls hl => ?_)
  refine lv_iload_n hx hb dX13_run_30 rfl (lv_at hl 0 rfl) ?_
  refine lv_bipush (v := 8) hx hb dX13_run_31 (by decide) ?_
  refine lv_icmp_ge (tgt := 54) hx hb dX13_run_33 (by decide) (fun c_5 => absurd c_5 (by decide)) (fun c_5 => ?_)
  refine lv_aload_n hx hb dX13_run_36 rfl (lv_at hl 2 rfl) ?_
  refine va_get (D := (dC, dI)) (ci := 15) (v := .ref (b 3)) (C := RX13) (T := TX13) (N := 14) hx hb hts hiX13 hown hK hP 10 rfl rfl 4 (by decide) hf29 (fun _ h9 => h9) rfl dX13_run_37 ?_
  refine lv_iload_n hx hb dX13_run_40 rfl (lv_at hl 0 rfl) ?_
  refine lv_aload_n hx hb dX13_run_41 rfl (lv_at hl 2 rfl) ?_
  refine va_get (D := (dC, dI)) (ci := 15) (v := .ref (b 4)) (C := RX13) (T := TX13) (N := 14) hx hb hts hiX13 hown hK hP 10 rfl rfl 5 (by decide) hf32 (fun _ h9 => h9) rfl dX13_run_42 ?_
  refine lv_iload_n hx hb dX13_run_45 rfl (lv_at hl 0 rfl) ?_
  refine va_aldA hx hb hK hP 1 rfl (by unfold vp_in; decide) dX13_run_46 ?_
  refine W.eq (g2 := F0 m 47 ls [.ref (r1 0), .int 0, .ref (b 3)]) (rfl) ?_
  refine va_astA hx hb hK (ao_3 hG) hP hD hS 0 2 rfl rfl (by unfold vp_in; decide) dX13_run_47 (fun H_6 L_7 hP hD hS => ?_)
  have hP : va_P (dC, dI) vwCl [((b 3), .inl (g 4, 8, .inr (.inr (.inr (.inr (va_up (fun i => if i < 8 then some (r1 i) else none) (0 : Int32).toNatClampNeg (some (r1 0)))))))), ((b 4), .inl (g 4, 8, .inr (.inr (.inr (.inr (va_up (va_up (va_up (va_up (va_up (va_up (va_up (va_up (fun i => if i < 8 then some (r2 i) else none) (0 : Int32).toNatClampNeg (some (r1 0))) (1 : Int32).toNatClampNeg (some (r1 1))) (2 : Int32).toNatClampNeg (some (r1 2))) (3 : Int32).toNatClampNeg (some (r1 3))) (4 : Int32).toNatClampNeg (some (r1 4))) (5 : Int32).toNatClampNeg (some (r1 5))) (6 : Int32).toNatClampNeg (some (r1 6))) (7 : Int32).toNatClampNeg (some (r1 7)))))))), ((r1 0), .inl (g 0, 0, .inl (fun _ => 0))), ((r1 1), .inl (g 0, 0, .inl (fun _ => 0))), ((r1 2), .inl (g 0, 0, .inl (fun _ => 0))), ((r1 3), .inl (g 0, 0, .inl (fun _ => 0))), ((r1 4), .inl (g 0, 0, .inl (fun _ => 0))), ((r1 5), .inl (g 0, 0, .inl (fun _ => 0))), ((r1 6), .inl (g 0, 0, .inl (fun _ => 0))), ((r1 7), .inl (g 0, 0, .inl (fun _ => 0))), ((b 0), .inr (15, [.int (cd true true true), .ref (b 1), .ref (b 2), .int 0, .ref (b 3), .ref (b 4), .ref (b 5), .null, .ref (b 6), .int 0, .int 0, .int 0, .int 0, .int (-1)]))] H_6 := hP
  have hD : va_D A [((b 3), .inl (g 4, 8, .inr (.inr (.inr (.inr (va_up (fun i => if i < 8 then some (r1 i) else none) (0 : Int32).toNatClampNeg (some (r1 0)))))))), ((b 4), .inl (g 4, 8, .inr (.inr (.inr (.inr (va_up (va_up (va_up (va_up (va_up (va_up (va_up (va_up (fun i => if i < 8 then some (r2 i) else none) (0 : Int32).toNatClampNeg (some (r1 0))) (1 : Int32).toNatClampNeg (some (r1 1))) (2 : Int32).toNatClampNeg (some (r1 2))) (3 : Int32).toNatClampNeg (some (r1 3))) (4 : Int32).toNatClampNeg (some (r1 4))) (5 : Int32).toNatClampNeg (some (r1 5))) (6 : Int32).toNatClampNeg (some (r1 6))) (7 : Int32).toNatClampNeg (some (r1 7)))))))), ((r1 0), .inl (g 0, 0, .inl (fun _ => 0))), ((r1 1), .inl (g 0, 0, .inl (fun _ => 0))), ((r1 2), .inl (g 0, 0, .inl (fun _ => 0))), ((r1 3), .inl (g 0, 0, .inl (fun _ => 0))), ((r1 4), .inl (g 0, 0, .inl (fun _ => 0))), ((r1 5), .inl (g 0, 0, .inl (fun _ => 0))), ((r1 6), .inl (g 0, 0, .inl (fun _ => 0))), ((r1 7), .inl (g 0, 0, .inl (fun _ => 0))), ((b 0), .inr (15, [.int (cd true true true), .ref (b 1), .ref (b 2), .int 0, .ref (b 3), .ref (b 4), .ref (b 5), .null, .ref (b 6), .int 0, .int 0, .int 0, .int 0, .int (-1)]))] := hD
  refine lv_iinc (v := 1) (lv' := [(2, .int 1), (1, .int 0), (0, .ref (b 0))]) hx hb dX13_run_48 hl (k := 0) rfl (by decide) (by decide) rfl (fun ls hl => ?_)
  refine lv_goto (tgt := 30) hx hb dX13_run_51 (by decide) ?_
  refine lv_iload_n hx hb dX13_run_30 rfl (lv_at hl 0 rfl) ?_
  refine lv_bipush (v := 8) hx hb dX13_run_31 (by decide) ?_
  refine lv_icmp_ge (tgt := 54) hx hb dX13_run_33 (by decide) (fun c_8 => absurd c_8 (by decide)) (fun c_8 => ?_)
  refine lv_aload_n hx hb dX13_run_36 rfl (lv_at hl 2 rfl) ?_
  refine va_get (D := (dC, dI)) (ci := 15) (v := .ref (b 3)) (C := RX13) (T := TX13) (N := 14) hx hb hts hiX13 hown hK hP 10 rfl rfl 4 (by decide) hf29 (fun _ h9 => h9) rfl dX13_run_37 ?_
  refine lv_iload_n hx hb dX13_run_40 rfl (lv_at hl 0 rfl) ?_
  refine lv_aload_n hx hb dX13_run_41 rfl (lv_at hl 2 rfl) ?_
  refine va_get (D := (dC, dI)) (ci := 15) (v := .ref (b 4)) (C := RX13) (T := TX13) (N := 14) hx hb hts hiX13 hown hK hP 10 rfl rfl 5 (by decide) hf32 (fun _ h9 => h9) rfl dX13_run_42 ?_
  refine lv_iload_n hx hb dX13_run_45 rfl (lv_at hl 0 rfl) ?_
  refine va_aldA hx hb hK hP 1 rfl (by unfold vp_in; decide) dX13_run_46 ?_
  refine W.eq (g2 := F0 m 47 ls [.ref (r1 1), .int 1, .ref (b 3)]) (rfl) ?_
  refine va_astA hx hb hK (ao_3 hG) hP hD hS 0 3 rfl rfl (by unfold vp_in; decide) dX13_run_47 (fun H_9 L_10 hP hD hS => ?_)
  have hP : va_P (dC, dI) vwCl [((b 3), .inl (g 4, 8, .inr (.inr (.inr (.inr (va_up (va_up (fun i => if i < 8 then some (r1 i) else none) (0 : Int32).toNatClampNeg (some (r1 0))) (1 : Int32).toNatClampNeg (some (r1 1)))))))), ((b 4), .inl (g 4, 8, .inr (.inr (.inr (.inr (va_up (va_up (va_up (va_up (va_up (va_up (va_up (va_up (fun i => if i < 8 then some (r2 i) else none) (0 : Int32).toNatClampNeg (some (r1 0))) (1 : Int32).toNatClampNeg (some (r1 1))) (2 : Int32).toNatClampNeg (some (r1 2))) (3 : Int32).toNatClampNeg (some (r1 3))) (4 : Int32).toNatClampNeg (some (r1 4))) (5 : Int32).toNatClampNeg (some (r1 5))) (6 : Int32).toNatClampNeg (some (r1 6))) (7 : Int32).toNatClampNeg (some (r1 7)))))))), ((r1 0), .inl (g 0, 0, .inl (fun _ => 0))), ((r1 1), .inl (g 0, 0, .inl (fun _ => 0))), ((r1 2), .inl (g 0, 0, .inl (fun _ => 0))), ((r1 3), .inl (g 0, 0, .inl (fun _ => 0))), ((r1 4), .inl (g 0, 0, .inl (fun _ => 0))), ((r1 5), .inl (g 0, 0, .inl (fun _ => 0))), ((r1 6), .inl (g 0, 0, .inl (fun _ => 0))), ((r1 7), .inl (g 0, 0, .inl (fun _ => 0))), ((b 0), .inr (15, [.int (cd true true true), .ref (b 1), .ref (b 2), .int 0, .ref (b 3), .ref (b 4), .ref (b 5), .null, .ref (b 6), .int 0, .int 0, .int 0, .int 0, .int (-1)]))] H_9 := hP
  have hD : va_D A [((b 3), .inl (g 4, 8, .inr (.inr (.inr (.inr (va_up (va_up (fun i => if i < 8 then some (r1 i) else none) (0 : Int32).toNatClampNeg (some (r1 0))) (1 : Int32).toNatClampNeg (some (r1 1)))))))), ((b 4), .inl (g 4, 8, .inr (.inr (.inr (.inr (va_up (va_up (va_up (va_up (va_up (va_up (va_up (va_up (fun i => if i < 8 then some (r2 i) else none) (0 : Int32).toNatClampNeg (some (r1 0))) (1 : Int32).toNatClampNeg (some (r1 1))) (2 : Int32).toNatClampNeg (some (r1 2))) (3 : Int32).toNatClampNeg (some (r1 3))) (4 : Int32).toNatClampNeg (some (r1 4))) (5 : Int32).toNatClampNeg (some (r1 5))) (6 : Int32).toNatClampNeg (some (r1 6))) (7 : Int32).toNatClampNeg (some (r1 7)))))))), ((r1 0), .inl (g 0, 0, .inl (fun _ => 0))), ((r1 1), .inl (g 0, 0, .inl (fun _ => 0))), ((r1 2), .inl (g 0, 0, .inl (fun _ => 0))), ((r1 3), .inl (g 0, 0, .inl (fun _ => 0))), ((r1 4), .inl (g 0, 0, .inl (fun _ => 0))), ((r1 5), .inl (g 0, 0, .inl (fun _ => 0))), ((r1 6), .inl (g 0, 0, .inl (fun _ => 0))), ((r1 7), .inl (g 0, 0, .inl (fun _ => 0))), ((b 0), .inr (15, [.int (cd true true true), .ref (b 1), .ref (b 2), .int 0, .ref (b 3), .ref (b 4), .ref (b 5), .null, .ref (b 6), .int 0, .int 0, .int 0, .int 0, .int (-1)]))] := hD
  refine lv_iinc (v := 2) (lv' := [(2, .int 2), (1, .int 0), (0, .ref (b 0))]) hx hb dX13_run_48 hl (k := 0) rfl (by decide) (by decide) rfl (fun ls hl => ?_)
  refine lv_goto (tgt := 30) hx hb dX13_run_51 (by decide) ?_
  refine lv_iload_n hx hb dX13_run_30 rfl (lv_at hl 0 rfl) ?_
  refine lv_bipush (v := 8) hx hb dX13_run_31 (by decide) ?_
  refine lv_icmp_ge (tgt := 54) hx hb dX13_run_33 (by decide) (fun c_11 => absurd c_11 (by decide)) (fun c_11 => ?_)
  refine lv_aload_n hx hb dX13_run_36 rfl (lv_at hl 2 rfl) ?_
  refine va_get (D := (dC, dI)) (ci := 15) (v := .ref (b 3)) (C := RX13) (T := TX13) (N := 14) hx hb hts hiX13 hown hK hP 10 rfl rfl 4 (by decide) hf29 (fun _ h9 => h9) rfl dX13_run_37 ?_
  refine lv_iload_n hx hb dX13_run_40 rfl (lv_at hl 0 rfl) ?_
  refine lv_aload_n hx hb dX13_run_41 rfl (lv_at hl 2 rfl) ?_
  refine va_get (D := (dC, dI)) (ci := 15) (v := .ref (b 4)) (C := RX13) (T := TX13) (N := 14) hx hb hts hiX13 hown hK hP 10 rfl rfl 5 (by decide) hf32 (fun _ h9 => h9) rfl dX13_run_42 ?_
  refine lv_iload_n hx hb dX13_run_45 rfl (lv_at hl 0 rfl) ?_
  refine va_aldA hx hb hK hP 1 rfl (by unfold vp_in; decide) dX13_run_46 ?_
  refine W.eq (g2 := F0 m 47 ls [.ref (r1 2), .int 2, .ref (b 3)]) (rfl) ?_
  refine va_astA hx hb hK (ao_3 hG) hP hD hS 0 4 rfl rfl (by unfold vp_in; decide) dX13_run_47 (fun H_12 L_13 hP hD hS => ?_)
  have hP : va_P (dC, dI) vwCl [((b 3), .inl (g 4, 8, .inr (.inr (.inr (.inr (va_up (va_up (va_up (fun i => if i < 8 then some (r1 i) else none) (0 : Int32).toNatClampNeg (some (r1 0))) (1 : Int32).toNatClampNeg (some (r1 1))) (2 : Int32).toNatClampNeg (some (r1 2)))))))), ((b 4), .inl (g 4, 8, .inr (.inr (.inr (.inr (va_up (va_up (va_up (va_up (va_up (va_up (va_up (va_up (fun i => if i < 8 then some (r2 i) else none) (0 : Int32).toNatClampNeg (some (r1 0))) (1 : Int32).toNatClampNeg (some (r1 1))) (2 : Int32).toNatClampNeg (some (r1 2))) (3 : Int32).toNatClampNeg (some (r1 3))) (4 : Int32).toNatClampNeg (some (r1 4))) (5 : Int32).toNatClampNeg (some (r1 5))) (6 : Int32).toNatClampNeg (some (r1 6))) (7 : Int32).toNatClampNeg (some (r1 7)))))))), ((r1 0), .inl (g 0, 0, .inl (fun _ => 0))), ((r1 1), .inl (g 0, 0, .inl (fun _ => 0))), ((r1 2), .inl (g 0, 0, .inl (fun _ => 0))), ((r1 3), .inl (g 0, 0, .inl (fun _ => 0))), ((r1 4), .inl (g 0, 0, .inl (fun _ => 0))), ((r1 5), .inl (g 0, 0, .inl (fun _ => 0))), ((r1 6), .inl (g 0, 0, .inl (fun _ => 0))), ((r1 7), .inl (g 0, 0, .inl (fun _ => 0))), ((b 0), .inr (15, [.int (cd true true true), .ref (b 1), .ref (b 2), .int 0, .ref (b 3), .ref (b 4), .ref (b 5), .null, .ref (b 6), .int 0, .int 0, .int 0, .int 0, .int (-1)]))] H_12 := hP
  have hD : va_D A [((b 3), .inl (g 4, 8, .inr (.inr (.inr (.inr (va_up (va_up (va_up (fun i => if i < 8 then some (r1 i) else none) (0 : Int32).toNatClampNeg (some (r1 0))) (1 : Int32).toNatClampNeg (some (r1 1))) (2 : Int32).toNatClampNeg (some (r1 2)))))))), ((b 4), .inl (g 4, 8, .inr (.inr (.inr (.inr (va_up (va_up (va_up (va_up (va_up (va_up (va_up (va_up (fun i => if i < 8 then some (r2 i) else none) (0 : Int32).toNatClampNeg (some (r1 0))) (1 : Int32).toNatClampNeg (some (r1 1))) (2 : Int32).toNatClampNeg (some (r1 2))) (3 : Int32).toNatClampNeg (some (r1 3))) (4 : Int32).toNatClampNeg (some (r1 4))) (5 : Int32).toNatClampNeg (some (r1 5))) (6 : Int32).toNatClampNeg (some (r1 6))) (7 : Int32).toNatClampNeg (some (r1 7)))))))), ((r1 0), .inl (g 0, 0, .inl (fun _ => 0))), ((r1 1), .inl (g 0, 0, .inl (fun _ => 0))), ((r1 2), .inl (g 0, 0, .inl (fun _ => 0))), ((r1 3), .inl (g 0, 0, .inl (fun _ => 0))), ((r1 4), .inl (g 0, 0, .inl (fun _ => 0))), ((r1 5), .inl (g 0, 0, .inl (fun _ => 0))), ((r1 6), .inl (g 0, 0, .inl (fun _ => 0))), ((r1 7), .inl (g 0, 0, .inl (fun _ => 0))), ((b 0), .inr (15, [.int (cd true true true), .ref (b 1), .ref (b 2), .int 0, .ref (b 3), .ref (b 4), .ref (b 5), .null, .ref (b 6), .int 0, .int 0, .int 0, .int 0, .int (-1)]))] := hD
  refine lv_iinc (v := 3) (lv' := [(2, .int 3), (1, .int 0), (0, .ref (b 0))]) hx hb dX13_run_48 hl (k := 0) rfl (by decide) (by decide) rfl (fun ls hl => ?_)
  refine lv_goto (tgt := 30) hx hb dX13_run_51 (by decide) ?_
  refine lv_iload_n hx hb dX13_run_30 rfl (lv_at hl 0 rfl) ?_
  refine lv_bipush (v := 8) hx hb dX13_run_31 (by decide) ?_
  refine lv_icmp_ge (tgt := 54) hx hb dX13_run_33 (by decide) (fun c_14 => absurd c_14 (by decide)) (fun c_14 => ?_)
  refine lv_aload_n hx hb dX13_run_36 rfl (lv_at hl 2 rfl) ?_
  refine va_get (D := (dC, dI)) (ci := 15) (v := .ref (b 3)) (C := RX13) (T := TX13) (N := 14) hx hb hts hiX13 hown hK hP 10 rfl rfl 4 (by decide) hf29 (fun _ h9 => h9) rfl dX13_run_37 ?_
  refine lv_iload_n hx hb dX13_run_40 rfl (lv_at hl 0 rfl) ?_
  refine lv_aload_n hx hb dX13_run_41 rfl (lv_at hl 2 rfl) ?_
  refine va_get (D := (dC, dI)) (ci := 15) (v := .ref (b 4)) (C := RX13) (T := TX13) (N := 14) hx hb hts hiX13 hown hK hP 10 rfl rfl 5 (by decide) hf32 (fun _ h9 => h9) rfl dX13_run_42 ?_
  refine lv_iload_n hx hb dX13_run_45 rfl (lv_at hl 0 rfl) ?_
  refine va_aldA hx hb hK hP 1 rfl (by unfold vp_in; decide) dX13_run_46 ?_
  refine W.eq (g2 := F0 m 47 ls [.ref (r1 3), .int 3, .ref (b 3)]) (rfl) ?_
  refine va_astA hx hb hK (ao_3 hG) hP hD hS 0 5 rfl rfl (by unfold vp_in; decide) dX13_run_47 (fun H_15 L_16 hP hD hS => ?_)
  have hP : va_P (dC, dI) vwCl [((b 3), .inl (g 4, 8, .inr (.inr (.inr (.inr (va_up (va_up (va_up (va_up (fun i => if i < 8 then some (r1 i) else none) (0 : Int32).toNatClampNeg (some (r1 0))) (1 : Int32).toNatClampNeg (some (r1 1))) (2 : Int32).toNatClampNeg (some (r1 2))) (3 : Int32).toNatClampNeg (some (r1 3)))))))), ((b 4), .inl (g 4, 8, .inr (.inr (.inr (.inr (va_up (va_up (va_up (va_up (va_up (va_up (va_up (va_up (fun i => if i < 8 then some (r2 i) else none) (0 : Int32).toNatClampNeg (some (r1 0))) (1 : Int32).toNatClampNeg (some (r1 1))) (2 : Int32).toNatClampNeg (some (r1 2))) (3 : Int32).toNatClampNeg (some (r1 3))) (4 : Int32).toNatClampNeg (some (r1 4))) (5 : Int32).toNatClampNeg (some (r1 5))) (6 : Int32).toNatClampNeg (some (r1 6))) (7 : Int32).toNatClampNeg (some (r1 7)))))))), ((r1 0), .inl (g 0, 0, .inl (fun _ => 0))), ((r1 1), .inl (g 0, 0, .inl (fun _ => 0))), ((r1 2), .inl (g 0, 0, .inl (fun _ => 0))), ((r1 3), .inl (g 0, 0, .inl (fun _ => 0))), ((r1 4), .inl (g 0, 0, .inl (fun _ => 0))), ((r1 5), .inl (g 0, 0, .inl (fun _ => 0))), ((r1 6), .inl (g 0, 0, .inl (fun _ => 0))), ((r1 7), .inl (g 0, 0, .inl (fun _ => 0))), ((b 0), .inr (15, [.int (cd true true true), .ref (b 1), .ref (b 2), .int 0, .ref (b 3), .ref (b 4), .ref (b 5), .null, .ref (b 6), .int 0, .int 0, .int 0, .int 0, .int (-1)]))] H_15 := hP
  have hD : va_D A [((b 3), .inl (g 4, 8, .inr (.inr (.inr (.inr (va_up (va_up (va_up (va_up (fun i => if i < 8 then some (r1 i) else none) (0 : Int32).toNatClampNeg (some (r1 0))) (1 : Int32).toNatClampNeg (some (r1 1))) (2 : Int32).toNatClampNeg (some (r1 2))) (3 : Int32).toNatClampNeg (some (r1 3)))))))), ((b 4), .inl (g 4, 8, .inr (.inr (.inr (.inr (va_up (va_up (va_up (va_up (va_up (va_up (va_up (va_up (fun i => if i < 8 then some (r2 i) else none) (0 : Int32).toNatClampNeg (some (r1 0))) (1 : Int32).toNatClampNeg (some (r1 1))) (2 : Int32).toNatClampNeg (some (r1 2))) (3 : Int32).toNatClampNeg (some (r1 3))) (4 : Int32).toNatClampNeg (some (r1 4))) (5 : Int32).toNatClampNeg (some (r1 5))) (6 : Int32).toNatClampNeg (some (r1 6))) (7 : Int32).toNatClampNeg (some (r1 7)))))))), ((r1 0), .inl (g 0, 0, .inl (fun _ => 0))), ((r1 1), .inl (g 0, 0, .inl (fun _ => 0))), ((r1 2), .inl (g 0, 0, .inl (fun _ => 0))), ((r1 3), .inl (g 0, 0, .inl (fun _ => 0))), ((r1 4), .inl (g 0, 0, .inl (fun _ => 0))), ((r1 5), .inl (g 0, 0, .inl (fun _ => 0))), ((r1 6), .inl (g 0, 0, .inl (fun _ => 0))), ((r1 7), .inl (g 0, 0, .inl (fun _ => 0))), ((b 0), .inr (15, [.int (cd true true true), .ref (b 1), .ref (b 2), .int 0, .ref (b 3), .ref (b 4), .ref (b 5), .null, .ref (b 6), .int 0, .int 0, .int 0, .int 0, .int (-1)]))] := hD
  refine lv_iinc (v := 4) (lv' := [(2, .int 4), (1, .int 0), (0, .ref (b 0))]) hx hb dX13_run_48 hl (k := 0) rfl (by decide) (by decide) rfl (fun ls hl => ?_)
  refine lv_goto (tgt := 30) hx hb dX13_run_51 (by decide) ?_
  refine lv_iload_n hx hb dX13_run_30 rfl (lv_at hl 0 rfl) ?_
  refine lv_bipush (v := 8) hx hb dX13_run_31 (by decide) ?_
  refine lv_icmp_ge (tgt := 54) hx hb dX13_run_33 (by decide) (fun c_17 => absurd c_17 (by decide)) (fun c_17 => ?_)
  refine lv_aload_n hx hb dX13_run_36 rfl (lv_at hl 2 rfl) ?_
  refine va_get (D := (dC, dI)) (ci := 15) (v := .ref (b 3)) (C := RX13) (T := TX13) (N := 14) hx hb hts hiX13 hown hK hP 10 rfl rfl 4 (by decide) hf29 (fun _ h9 => h9) rfl dX13_run_37 ?_
  refine lv_iload_n hx hb dX13_run_40 rfl (lv_at hl 0 rfl) ?_
  refine lv_aload_n hx hb dX13_run_41 rfl (lv_at hl 2 rfl) ?_
  refine va_get (D := (dC, dI)) (ci := 15) (v := .ref (b 4)) (C := RX13) (T := TX13) (N := 14) hx hb hts hiX13 hown hK hP 10 rfl rfl 5 (by decide) hf32 (fun _ h9 => h9) rfl dX13_run_42 ?_
  refine lv_iload_n hx hb dX13_run_45 rfl (lv_at hl 0 rfl) ?_
  refine va_aldA hx hb hK hP 1 rfl (by unfold vp_in; decide) dX13_run_46 ?_
  refine W.eq (g2 := F0 m 47 ls [.ref (r1 4), .int 4, .ref (b 3)]) (rfl) ?_
  refine va_astA hx hb hK (ao_3 hG) hP hD hS 0 6 rfl rfl (by unfold vp_in; decide) dX13_run_47 (fun H_18 L_19 hP hD hS => ?_)
  have hP : va_P (dC, dI) vwCl [((b 3), .inl (g 4, 8, .inr (.inr (.inr (.inr (va_up (va_up (va_up (va_up (va_up (fun i => if i < 8 then some (r1 i) else none) (0 : Int32).toNatClampNeg (some (r1 0))) (1 : Int32).toNatClampNeg (some (r1 1))) (2 : Int32).toNatClampNeg (some (r1 2))) (3 : Int32).toNatClampNeg (some (r1 3))) (4 : Int32).toNatClampNeg (some (r1 4)))))))), ((b 4), .inl (g 4, 8, .inr (.inr (.inr (.inr (va_up (va_up (va_up (va_up (va_up (va_up (va_up (va_up (fun i => if i < 8 then some (r2 i) else none) (0 : Int32).toNatClampNeg (some (r1 0))) (1 : Int32).toNatClampNeg (some (r1 1))) (2 : Int32).toNatClampNeg (some (r1 2))) (3 : Int32).toNatClampNeg (some (r1 3))) (4 : Int32).toNatClampNeg (some (r1 4))) (5 : Int32).toNatClampNeg (some (r1 5))) (6 : Int32).toNatClampNeg (some (r1 6))) (7 : Int32).toNatClampNeg (some (r1 7)))))))), ((r1 0), .inl (g 0, 0, .inl (fun _ => 0))), ((r1 1), .inl (g 0, 0, .inl (fun _ => 0))), ((r1 2), .inl (g 0, 0, .inl (fun _ => 0))), ((r1 3), .inl (g 0, 0, .inl (fun _ => 0))), ((r1 4), .inl (g 0, 0, .inl (fun _ => 0))), ((r1 5), .inl (g 0, 0, .inl (fun _ => 0))), ((r1 6), .inl (g 0, 0, .inl (fun _ => 0))), ((r1 7), .inl (g 0, 0, .inl (fun _ => 0))), ((b 0), .inr (15, [.int (cd true true true), .ref (b 1), .ref (b 2), .int 0, .ref (b 3), .ref (b 4), .ref (b 5), .null, .ref (b 6), .int 0, .int 0, .int 0, .int 0, .int (-1)]))] H_18 := hP
  have hD : va_D A [((b 3), .inl (g 4, 8, .inr (.inr (.inr (.inr (va_up (va_up (va_up (va_up (va_up (fun i => if i < 8 then some (r1 i) else none) (0 : Int32).toNatClampNeg (some (r1 0))) (1 : Int32).toNatClampNeg (some (r1 1))) (2 : Int32).toNatClampNeg (some (r1 2))) (3 : Int32).toNatClampNeg (some (r1 3))) (4 : Int32).toNatClampNeg (some (r1 4)))))))), ((b 4), .inl (g 4, 8, .inr (.inr (.inr (.inr (va_up (va_up (va_up (va_up (va_up (va_up (va_up (va_up (fun i => if i < 8 then some (r2 i) else none) (0 : Int32).toNatClampNeg (some (r1 0))) (1 : Int32).toNatClampNeg (some (r1 1))) (2 : Int32).toNatClampNeg (some (r1 2))) (3 : Int32).toNatClampNeg (some (r1 3))) (4 : Int32).toNatClampNeg (some (r1 4))) (5 : Int32).toNatClampNeg (some (r1 5))) (6 : Int32).toNatClampNeg (some (r1 6))) (7 : Int32).toNatClampNeg (some (r1 7)))))))), ((r1 0), .inl (g 0, 0, .inl (fun _ => 0))), ((r1 1), .inl (g 0, 0, .inl (fun _ => 0))), ((r1 2), .inl (g 0, 0, .inl (fun _ => 0))), ((r1 3), .inl (g 0, 0, .inl (fun _ => 0))), ((r1 4), .inl (g 0, 0, .inl (fun _ => 0))), ((r1 5), .inl (g 0, 0, .inl (fun _ => 0))), ((r1 6), .inl (g 0, 0, .inl (fun _ => 0))), ((r1 7), .inl (g 0, 0, .inl (fun _ => 0))), ((b 0), .inr (15, [.int (cd true true true), .ref (b 1), .ref (b 2), .int 0, .ref (b 3), .ref (b 4), .ref (b 5), .null, .ref (b 6), .int 0, .int 0, .int 0, .int 0, .int (-1)]))] := hD
  refine lv_iinc (v := 5) (lv' := [(2, .int 5), (1, .int 0), (0, .ref (b 0))]) hx hb dX13_run_48 hl (k := 0) rfl (by decide) (by decide) rfl (fun ls hl => ?_)
  refine lv_goto (tgt := 30) hx hb dX13_run_51 (by decide) ?_
  refine lv_iload_n hx hb dX13_run_30 rfl (lv_at hl 0 rfl) ?_
  refine lv_bipush (v := 8) hx hb dX13_run_31 (by decide) ?_
  refine lv_icmp_ge (tgt := 54) hx hb dX13_run_33 (by decide) (fun c_20 => absurd c_20 (by decide)) (fun c_20 => ?_)
  refine lv_aload_n hx hb dX13_run_36 rfl (lv_at hl 2 rfl) ?_
  refine va_get (D := (dC, dI)) (ci := 15) (v := .ref (b 3)) (C := RX13) (T := TX13) (N := 14) hx hb hts hiX13 hown hK hP 10 rfl rfl 4 (by decide) hf29 (fun _ h9 => h9) rfl dX13_run_37 ?_
  refine lv_iload_n hx hb dX13_run_40 rfl (lv_at hl 0 rfl) ?_
  refine lv_aload_n hx hb dX13_run_41 rfl (lv_at hl 2 rfl) ?_
  refine va_get (D := (dC, dI)) (ci := 15) (v := .ref (b 4)) (C := RX13) (T := TX13) (N := 14) hx hb hts hiX13 hown hK hP 10 rfl rfl 5 (by decide) hf32 (fun _ h9 => h9) rfl dX13_run_42 ?_
  refine lv_iload_n hx hb dX13_run_45 rfl (lv_at hl 0 rfl) ?_
  refine va_aldA hx hb hK hP 1 rfl (by unfold vp_in; decide) dX13_run_46 ?_
  refine W.eq (g2 := F0 m 47 ls [.ref (r1 5), .int 5, .ref (b 3)]) (rfl) ?_
  refine va_astA hx hb hK (ao_3 hG) hP hD hS 0 7 rfl rfl (by unfold vp_in; decide) dX13_run_47 (fun H_21 L_22 hP hD hS => ?_)
  have hP : va_P (dC, dI) vwCl [((b 3), .inl (g 4, 8, .inr (.inr (.inr (.inr (va_up (va_up (va_up (va_up (va_up (va_up (fun i => if i < 8 then some (r1 i) else none) (0 : Int32).toNatClampNeg (some (r1 0))) (1 : Int32).toNatClampNeg (some (r1 1))) (2 : Int32).toNatClampNeg (some (r1 2))) (3 : Int32).toNatClampNeg (some (r1 3))) (4 : Int32).toNatClampNeg (some (r1 4))) (5 : Int32).toNatClampNeg (some (r1 5)))))))), ((b 4), .inl (g 4, 8, .inr (.inr (.inr (.inr (va_up (va_up (va_up (va_up (va_up (va_up (va_up (va_up (fun i => if i < 8 then some (r2 i) else none) (0 : Int32).toNatClampNeg (some (r1 0))) (1 : Int32).toNatClampNeg (some (r1 1))) (2 : Int32).toNatClampNeg (some (r1 2))) (3 : Int32).toNatClampNeg (some (r1 3))) (4 : Int32).toNatClampNeg (some (r1 4))) (5 : Int32).toNatClampNeg (some (r1 5))) (6 : Int32).toNatClampNeg (some (r1 6))) (7 : Int32).toNatClampNeg (some (r1 7)))))))), ((r1 0), .inl (g 0, 0, .inl (fun _ => 0))), ((r1 1), .inl (g 0, 0, .inl (fun _ => 0))), ((r1 2), .inl (g 0, 0, .inl (fun _ => 0))), ((r1 3), .inl (g 0, 0, .inl (fun _ => 0))), ((r1 4), .inl (g 0, 0, .inl (fun _ => 0))), ((r1 5), .inl (g 0, 0, .inl (fun _ => 0))), ((r1 6), .inl (g 0, 0, .inl (fun _ => 0))), ((r1 7), .inl (g 0, 0, .inl (fun _ => 0))), ((b 0), .inr (15, [.int (cd true true true), .ref (b 1), .ref (b 2), .int 0, .ref (b 3), .ref (b 4), .ref (b 5), .null, .ref (b 6), .int 0, .int 0, .int 0, .int 0, .int (-1)]))] H_21 := hP
  have hD : va_D A [((b 3), .inl (g 4, 8, .inr (.inr (.inr (.inr (va_up (va_up (va_up (va_up (va_up (va_up (fun i => if i < 8 then some (r1 i) else none) (0 : Int32).toNatClampNeg (some (r1 0))) (1 : Int32).toNatClampNeg (some (r1 1))) (2 : Int32).toNatClampNeg (some (r1 2))) (3 : Int32).toNatClampNeg (some (r1 3))) (4 : Int32).toNatClampNeg (some (r1 4))) (5 : Int32).toNatClampNeg (some (r1 5)))))))), ((b 4), .inl (g 4, 8, .inr (.inr (.inr (.inr (va_up (va_up (va_up (va_up (va_up (va_up (va_up (va_up (fun i => if i < 8 then some (r2 i) else none) (0 : Int32).toNatClampNeg (some (r1 0))) (1 : Int32).toNatClampNeg (some (r1 1))) (2 : Int32).toNatClampNeg (some (r1 2))) (3 : Int32).toNatClampNeg (some (r1 3))) (4 : Int32).toNatClampNeg (some (r1 4))) (5 : Int32).toNatClampNeg (some (r1 5))) (6 : Int32).toNatClampNeg (some (r1 6))) (7 : Int32).toNatClampNeg (some (r1 7)))))))), ((r1 0), .inl (g 0, 0, .inl (fun _ => 0))), ((r1 1), .inl (g 0, 0, .inl (fun _ => 0))), ((r1 2), .inl (g 0, 0, .inl (fun _ => 0))), ((r1 3), .inl (g 0, 0, .inl (fun _ => 0))), ((r1 4), .inl (g 0, 0, .inl (fun _ => 0))), ((r1 5), .inl (g 0, 0, .inl (fun _ => 0))), ((r1 6), .inl (g 0, 0, .inl (fun _ => 0))), ((r1 7), .inl (g 0, 0, .inl (fun _ => 0))), ((b 0), .inr (15, [.int (cd true true true), .ref (b 1), .ref (b 2), .int 0, .ref (b 3), .ref (b 4), .ref (b 5), .null, .ref (b 6), .int 0, .int 0, .int 0, .int 0, .int (-1)]))] := hD
  refine lv_iinc (v := 6) (lv' := [(2, .int 6), (1, .int 0), (0, .ref (b 0))]) hx hb dX13_run_48 hl (k := 0) rfl (by decide) (by decide) rfl (fun ls hl => ?_)
  refine lv_goto (tgt := 30) hx hb dX13_run_51 (by decide) ?_
  refine lv_iload_n hx hb dX13_run_30 rfl (lv_at hl 0 rfl) ?_
  refine lv_bipush (v := 8) hx hb dX13_run_31 (by decide) ?_
  refine lv_icmp_ge (tgt := 54) hx hb dX13_run_33 (by decide) (fun c_23 => absurd c_23 (by decide)) (fun c_23 => ?_)
  refine lv_aload_n hx hb dX13_run_36 rfl (lv_at hl 2 rfl) ?_
  refine va_get (D := (dC, dI)) (ci := 15) (v := .ref (b 3)) (C := RX13) (T := TX13) (N := 14) hx hb hts hiX13 hown hK hP 10 rfl rfl 4 (by decide) hf29 (fun _ h9 => h9) rfl dX13_run_37 ?_
  refine lv_iload_n hx hb dX13_run_40 rfl (lv_at hl 0 rfl) ?_
  refine lv_aload_n hx hb dX13_run_41 rfl (lv_at hl 2 rfl) ?_
  refine va_get (D := (dC, dI)) (ci := 15) (v := .ref (b 4)) (C := RX13) (T := TX13) (N := 14) hx hb hts hiX13 hown hK hP 10 rfl rfl 5 (by decide) hf32 (fun _ h9 => h9) rfl dX13_run_42 ?_
  refine lv_iload_n hx hb dX13_run_45 rfl (lv_at hl 0 rfl) ?_
  refine va_aldA hx hb hK hP 1 rfl (by unfold vp_in; decide) dX13_run_46 ?_
  refine W.eq (g2 := F0 m 47 ls [.ref (r1 6), .int 6, .ref (b 3)]) (rfl) ?_
  refine va_astA hx hb hK (ao_3 hG) hP hD hS 0 8 rfl rfl (by unfold vp_in; decide) dX13_run_47 (fun H_24 L_25 hP hD hS => ?_)
  have hP : va_P (dC, dI) vwCl [((b 3), .inl (g 4, 8, .inr (.inr (.inr (.inr (va_up (va_up (va_up (va_up (va_up (va_up (va_up (fun i => if i < 8 then some (r1 i) else none) (0 : Int32).toNatClampNeg (some (r1 0))) (1 : Int32).toNatClampNeg (some (r1 1))) (2 : Int32).toNatClampNeg (some (r1 2))) (3 : Int32).toNatClampNeg (some (r1 3))) (4 : Int32).toNatClampNeg (some (r1 4))) (5 : Int32).toNatClampNeg (some (r1 5))) (6 : Int32).toNatClampNeg (some (r1 6)))))))), ((b 4), .inl (g 4, 8, .inr (.inr (.inr (.inr (va_up (va_up (va_up (va_up (va_up (va_up (va_up (va_up (fun i => if i < 8 then some (r2 i) else none) (0 : Int32).toNatClampNeg (some (r1 0))) (1 : Int32).toNatClampNeg (some (r1 1))) (2 : Int32).toNatClampNeg (some (r1 2))) (3 : Int32).toNatClampNeg (some (r1 3))) (4 : Int32).toNatClampNeg (some (r1 4))) (5 : Int32).toNatClampNeg (some (r1 5))) (6 : Int32).toNatClampNeg (some (r1 6))) (7 : Int32).toNatClampNeg (some (r1 7)))))))), ((r1 0), .inl (g 0, 0, .inl (fun _ => 0))), ((r1 1), .inl (g 0, 0, .inl (fun _ => 0))), ((r1 2), .inl (g 0, 0, .inl (fun _ => 0))), ((r1 3), .inl (g 0, 0, .inl (fun _ => 0))), ((r1 4), .inl (g 0, 0, .inl (fun _ => 0))), ((r1 5), .inl (g 0, 0, .inl (fun _ => 0))), ((r1 6), .inl (g 0, 0, .inl (fun _ => 0))), ((r1 7), .inl (g 0, 0, .inl (fun _ => 0))), ((b 0), .inr (15, [.int (cd true true true), .ref (b 1), .ref (b 2), .int 0, .ref (b 3), .ref (b 4), .ref (b 5), .null, .ref (b 6), .int 0, .int 0, .int 0, .int 0, .int (-1)]))] H_24 := hP
  have hD : va_D A [((b 3), .inl (g 4, 8, .inr (.inr (.inr (.inr (va_up (va_up (va_up (va_up (va_up (va_up (va_up (fun i => if i < 8 then some (r1 i) else none) (0 : Int32).toNatClampNeg (some (r1 0))) (1 : Int32).toNatClampNeg (some (r1 1))) (2 : Int32).toNatClampNeg (some (r1 2))) (3 : Int32).toNatClampNeg (some (r1 3))) (4 : Int32).toNatClampNeg (some (r1 4))) (5 : Int32).toNatClampNeg (some (r1 5))) (6 : Int32).toNatClampNeg (some (r1 6)))))))), ((b 4), .inl (g 4, 8, .inr (.inr (.inr (.inr (va_up (va_up (va_up (va_up (va_up (va_up (va_up (va_up (fun i => if i < 8 then some (r2 i) else none) (0 : Int32).toNatClampNeg (some (r1 0))) (1 : Int32).toNatClampNeg (some (r1 1))) (2 : Int32).toNatClampNeg (some (r1 2))) (3 : Int32).toNatClampNeg (some (r1 3))) (4 : Int32).toNatClampNeg (some (r1 4))) (5 : Int32).toNatClampNeg (some (r1 5))) (6 : Int32).toNatClampNeg (some (r1 6))) (7 : Int32).toNatClampNeg (some (r1 7)))))))), ((r1 0), .inl (g 0, 0, .inl (fun _ => 0))), ((r1 1), .inl (g 0, 0, .inl (fun _ => 0))), ((r1 2), .inl (g 0, 0, .inl (fun _ => 0))), ((r1 3), .inl (g 0, 0, .inl (fun _ => 0))), ((r1 4), .inl (g 0, 0, .inl (fun _ => 0))), ((r1 5), .inl (g 0, 0, .inl (fun _ => 0))), ((r1 6), .inl (g 0, 0, .inl (fun _ => 0))), ((r1 7), .inl (g 0, 0, .inl (fun _ => 0))), ((b 0), .inr (15, [.int (cd true true true), .ref (b 1), .ref (b 2), .int 0, .ref (b 3), .ref (b 4), .ref (b 5), .null, .ref (b 6), .int 0, .int 0, .int 0, .int 0, .int (-1)]))] := hD
  refine lv_iinc (v := 7) (lv' := [(2, .int 7), (1, .int 0), (0, .ref (b 0))]) hx hb dX13_run_48 hl (k := 0) rfl (by decide) (by decide) rfl (fun ls hl => ?_)
  refine lv_goto (tgt := 30) hx hb dX13_run_51 (by decide) ?_
  refine lv_iload_n hx hb dX13_run_30 rfl (lv_at hl 0 rfl) ?_
  refine lv_bipush (v := 8) hx hb dX13_run_31 (by decide) ?_
  refine lv_icmp_ge (tgt := 54) hx hb dX13_run_33 (by decide) (fun c_26 => absurd c_26 (by decide)) (fun c_26 => ?_)
  refine lv_aload_n hx hb dX13_run_36 rfl (lv_at hl 2 rfl) ?_
  refine va_get (D := (dC, dI)) (ci := 15) (v := .ref (b 3)) (C := RX13) (T := TX13) (N := 14) hx hb hts hiX13 hown hK hP 10 rfl rfl 4 (by decide) hf29 (fun _ h9 => h9) rfl dX13_run_37 ?_
  refine lv_iload_n hx hb dX13_run_40 rfl (lv_at hl 0 rfl) ?_
  refine lv_aload_n hx hb dX13_run_41 rfl (lv_at hl 2 rfl) ?_
  refine va_get (D := (dC, dI)) (ci := 15) (v := .ref (b 4)) (C := RX13) (T := TX13) (N := 14) hx hb hts hiX13 hown hK hP 10 rfl rfl 5 (by decide) hf32 (fun _ h9 => h9) rfl dX13_run_42 ?_
  refine lv_iload_n hx hb dX13_run_45 rfl (lv_at hl 0 rfl) ?_
  refine va_aldA hx hb hK hP 1 rfl (by unfold vp_in; decide) dX13_run_46 ?_
  refine W.eq (g2 := F0 m 47 ls [.ref (r1 7), .int 7, .ref (b 3)]) (rfl) ?_
  refine va_astA hx hb hK (ao_3 hG) hP hD hS 0 9 rfl rfl (by unfold vp_in; decide) dX13_run_47 (fun H_27 L_28 hP hD hS => ?_)
  have hP : va_P (dC, dI) vwCl [((b 3), .inl (g 4, 8, .inr (.inr (.inr (.inr (va_up (va_up (va_up (va_up (va_up (va_up (va_up (va_up (fun i => if i < 8 then some (r1 i) else none) (0 : Int32).toNatClampNeg (some (r1 0))) (1 : Int32).toNatClampNeg (some (r1 1))) (2 : Int32).toNatClampNeg (some (r1 2))) (3 : Int32).toNatClampNeg (some (r1 3))) (4 : Int32).toNatClampNeg (some (r1 4))) (5 : Int32).toNatClampNeg (some (r1 5))) (6 : Int32).toNatClampNeg (some (r1 6))) (7 : Int32).toNatClampNeg (some (r1 7)))))))), ((b 4), .inl (g 4, 8, .inr (.inr (.inr (.inr (va_up (va_up (va_up (va_up (va_up (va_up (va_up (va_up (fun i => if i < 8 then some (r2 i) else none) (0 : Int32).toNatClampNeg (some (r1 0))) (1 : Int32).toNatClampNeg (some (r1 1))) (2 : Int32).toNatClampNeg (some (r1 2))) (3 : Int32).toNatClampNeg (some (r1 3))) (4 : Int32).toNatClampNeg (some (r1 4))) (5 : Int32).toNatClampNeg (some (r1 5))) (6 : Int32).toNatClampNeg (some (r1 6))) (7 : Int32).toNatClampNeg (some (r1 7)))))))), ((r1 0), .inl (g 0, 0, .inl (fun _ => 0))), ((r1 1), .inl (g 0, 0, .inl (fun _ => 0))), ((r1 2), .inl (g 0, 0, .inl (fun _ => 0))), ((r1 3), .inl (g 0, 0, .inl (fun _ => 0))), ((r1 4), .inl (g 0, 0, .inl (fun _ => 0))), ((r1 5), .inl (g 0, 0, .inl (fun _ => 0))), ((r1 6), .inl (g 0, 0, .inl (fun _ => 0))), ((r1 7), .inl (g 0, 0, .inl (fun _ => 0))), ((b 0), .inr (15, [.int (cd true true true), .ref (b 1), .ref (b 2), .int 0, .ref (b 3), .ref (b 4), .ref (b 5), .null, .ref (b 6), .int 0, .int 0, .int 0, .int 0, .int (-1)]))] H_27 := hP
  have hD : va_D A [((b 3), .inl (g 4, 8, .inr (.inr (.inr (.inr (va_up (va_up (va_up (va_up (va_up (va_up (va_up (va_up (fun i => if i < 8 then some (r1 i) else none) (0 : Int32).toNatClampNeg (some (r1 0))) (1 : Int32).toNatClampNeg (some (r1 1))) (2 : Int32).toNatClampNeg (some (r1 2))) (3 : Int32).toNatClampNeg (some (r1 3))) (4 : Int32).toNatClampNeg (some (r1 4))) (5 : Int32).toNatClampNeg (some (r1 5))) (6 : Int32).toNatClampNeg (some (r1 6))) (7 : Int32).toNatClampNeg (some (r1 7)))))))), ((b 4), .inl (g 4, 8, .inr (.inr (.inr (.inr (va_up (va_up (va_up (va_up (va_up (va_up (va_up (va_up (fun i => if i < 8 then some (r2 i) else none) (0 : Int32).toNatClampNeg (some (r1 0))) (1 : Int32).toNatClampNeg (some (r1 1))) (2 : Int32).toNatClampNeg (some (r1 2))) (3 : Int32).toNatClampNeg (some (r1 3))) (4 : Int32).toNatClampNeg (some (r1 4))) (5 : Int32).toNatClampNeg (some (r1 5))) (6 : Int32).toNatClampNeg (some (r1 6))) (7 : Int32).toNatClampNeg (some (r1 7)))))))), ((r1 0), .inl (g 0, 0, .inl (fun _ => 0))), ((r1 1), .inl (g 0, 0, .inl (fun _ => 0))), ((r1 2), .inl (g 0, 0, .inl (fun _ => 0))), ((r1 3), .inl (g 0, 0, .inl (fun _ => 0))), ((r1 4), .inl (g 0, 0, .inl (fun _ => 0))), ((r1 5), .inl (g 0, 0, .inl (fun _ => 0))), ((r1 6), .inl (g 0, 0, .inl (fun _ => 0))), ((r1 7), .inl (g 0, 0, .inl (fun _ => 0))), ((b 0), .inr (15, [.int (cd true true true), .ref (b 1), .ref (b 2), .int 0, .ref (b 3), .ref (b 4), .ref (b 5), .null, .ref (b 6), .int 0, .int 0, .int 0, .int 0, .int (-1)]))] := hD
  refine lv_iinc (v := 8) (lv' := [(2, .int 8), (1, .int 0), (0, .ref (b 0))]) hx hb dX13_run_48 hl (k := 0) rfl (by decide) (by decide) rfl (fun ls hl => ?_)
  refine lv_goto (tgt := 30) hx hb dX13_run_51 (by decide) ?_
  refine lv_iload_n hx hb dX13_run_30 rfl (lv_at hl 0 rfl) ?_
  refine lv_bipush (v := 8) hx hb dX13_run_31 (by decide) ?_
  refine lv_icmp_ge (tgt := 54) hx hb dX13_run_33 (by decide) (fun c_29 => ?_) (fun c_29 => absurd (by decide) c_29)
  refine lv_iload_n hx hb dX13_run_54 rfl (lv_at hl 1 rfl) ?_
  have hcd : (cd true true true) = (cd true true true) := rfl
  have hP8 := hP.sub (ws' := [((b 0), .inr (15, [.int (cd true true true), .ref (b 1), .ref (b 2), .int 0, .ref (b 3), .ref (b 4), .ref (b 5), .null, .ref (b 6), .int 0, .int 0, .int 0, .int 0, .int (-1)]))]) [10] rfl
  rw [hcd] at hP8
  exact W.iret (v := 0) hx hb hr (fun t ht hW => ⟨⟨0, (), rfl, (fun h => by first | rfl | (exact absurd (cd_0.mp h) (by simp []))), ⟨[.ref (b 1), .ref (b 2), .int 0, .ref (b 3), .ref (b 4), .ref (b 5), .null, .ref (b 6), .int 0, .int 0, .int 0, .int 0, .int (-1)], P_at ht hP8⟩⟩, hS.F ht⟩) hS.2.2 dX13_run_55
