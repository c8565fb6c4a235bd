theorem dX12_result_0 : decode cX12_result 0 = .ok (.iconst 0, 1) := by decide +kernel
theorem dX12_result_1 : decode cX12_result 1 = .ok (.istore_n 1, 1) := by decide +kernel
theorem dX12_result_2 : decode cX12_result 2 = .ok (.iload_n 1, 1) := by decide +kernel
theorem dX12_result_3 : decode cX12_result 3 = .ok (.aload_n 0, 1) := by decide +kernel
theorem dX12_result_4 : decode cX12_result 4 = .ok (.getfield 22, 3) := by decide +kernel
set_option maxRecDepth 20000 in
theorem ggX12_result_Jx4a65c_size_8abf5 : GoodIn wsX12_result wsJx4a65c_size_8abf5 := goodIn_r _ [9, 10, 44, 45, 46] (by decide +kernel) (by decide +kernel)
set_option maxRecDepth 20000 in
theorem gX12_result_Jx4a65c_size_8abf5_f54Jx4a65c : GoodIn wsX12_result (va_wsF RX12 54 RJx4a65c ⟨"java/util/List", "size", "()I"⟩ yJx4a65c_size_8abf5 wsJx4a65c_size_8abf5) := goodIn_app (goodIn_of _ (by decide +kernel)) ggX12_result_Jx4a65c_size_8abf5
theorem dX12_result_7 : decode cX12_result 7 = .ok (.invokeinterface 54 1, 5) := by decide +kernel
theorem dX12_result_12 : decode cX12_result 12 = .ok (.if_icmp .ge 53, 3) := by decide +kernel
theorem dX12_result_15 : decode cX12_result 15 = .ok (.aload_n 0, 1) := by decide +kernel
theorem dX12_result_16 : decode cX12_result 16 = .ok (.getfield 22, 3) := by decide +kernel
theorem dX12_result_19 : decode cX12_result 19 = .ok (.iload_n 1, 1) := by decide +kernel
set_option maxRecDepth 20000 in
theorem ggX12_result_Jx4a65c_get_915e3 : GoodIn wsX12_result wsJx4a65c_get_915e3 := goodIn_r _ [14, 10, 15, 16, 17, 18, 19, 20, 21, 22, 23, 24, 25, 8, 26, 27, 44, 45, 46] (by decide +kernel) (by decide +kernel)
set_option maxRecDepth 20000 in
theorem gX12_result_Jx4a65c_get_915e3_f65Jx4a65c : GoodIn wsX12_result (va_wsF RX12 65 RJx4a65c ⟨"java/util/List", "get", "(I)Ljava/lang/Object;"⟩ yJx4a65c_get_915e3 wsJx4a65c_get_915e3) := goodIn_app (goodIn_of _ (by decide +kernel)) ggX12_result_Jx4a65c_get_915e3
theorem dX12_result_20 : decode cX12_result 20 = .ok (.invokeinterface 65 2, 5) := by decide +kernel
theorem dX12_result_25 : decode cX12_result 25 = .ok (.checkcast 45, 3) := by decide +kernel
set_option maxRecDepth 20000 in
theorem ggX12_result_Jx4a65c_isEmpty_aae02 : GoodIn wsX12_result wsJx4a65c_isEmpty_aae02 := goodIn_r _ [31, 10, 44, 45, 46] (by decide +kernel) (by decide +kernel)
set_option maxRecDepth 20000 in
theorem gX12_result_Jx4a65c_isEmpty_aae02_f61Jx4a65c : GoodIn wsX12_result (va_wsF RX12 61 RJx4a65c ⟨"java/util/List", "isEmpty", "()Z"⟩ yJx4a65c_isEmpty_aae02 wsJx4a65c_isEmpty_aae02) := goodIn_app (goodIn_of _ (by decide +kernel)) ggX12_result_Jx4a65c_isEmpty_aae02
theorem dX12_result_28 : decode cX12_result 28 = .ok (.invokeinterface 61 1, 5) := by decide +kernel
theorem dX12_result_33 : decode cX12_result 33 = .ok (.ifCond .ne 26, 3) := by decide +kernel
theorem dX12_result_59 : decode cX12_result 59 = .ok (.iinc 1 1, 3) := by decide +kernel
theorem dX12_result_62 : decode cX12_result 62 = .ok (.goto (-60), 3) := by decide +kernel
theorem dX12_result_65 : decode cX12_result 65 = .ok (.iconst 0, 1) := by decide +kernel
theorem dX12_result_66 : decode cX12_result 66 = .ok (.newarray .int, 2) := by decide +kernel
theorem dX12_result_68 : decode cX12_result 68 = .ok (.areturn, 1) := by decide +kernel
theorem dX13_sort_0 : decode cX13_sort 0 = .ok (.aload_n 0, 1) := by decide +kernel
theorem dX13_sort_1 : decode cX13_sort 1 = .ok (.iload_n 1, 1) := by decide +kernel
set_option maxRecDepth 20000 in
theorem ggX13_sort_X13_isTape : GoodIn wsX13_sort wsX13_isTape := goodIn_r _ [9, 10, 11, 8, 12] (by decide +kernel) (by decide +kernel)
set_option maxRecDepth 20000 in
theorem gX13_sort_X13_isTape : GoodIn wsX13_sort (va_wsS RX13 44 yX13_isTape wsX13_isTape) := goodIn_app (goodIn_of _ (by decide +kernel)) ggX13_sort_X13_isTape
theorem dX13_sort_2 : decode cX13_sort 2 = .ok (.invokestatic 44, 3) := by decide +kernel
theorem dX13_sort_5 : decode cX13_sort 5 = .ok (.ifCond .eq 14, 3) := by decide +kernel
theorem dX13_sort_19 : decode cX13_sort 19 = .ok (.iconst 0, 1) := by decide +kernel
theorem dX13_sort_20 : decode cX13_sort 20 = .ok (.iconst 1, 1) := by decide +kernel
theorem dX13_sort_21 : decode cX13_sort 21 = .ok (.iconst 1, 1) := by decide +kernel
set_option maxRecDepth 20000 in
theorem ggX13_sort_X13_passes : GoodIn wsX13_sort wsX13_passes := goodIn_r _ [16, 17, 256, 257, 258, 259, 260, 261, 262, 263, 264, 265, 266, 267, 268, 269] (by decide +kernel) (by decide +kernel)
set_option maxRecDepth 20000 in
theorem gX13_sort_X13_passes : GoodIn wsX13_sort (wsV RX13 55 RX13 yX13_passes wsX13_passes) := goodIn_app (goodIn_of _ (by decide +kernel)) ggX13_sort_X13_passes
theorem dX13_sort_22 : decode cX13_sort 22 = .ok (.invokevirtual 55, 3) := by decide +kernel
theorem dX13_sort_25 : decode cX13_sort 25 = .ok (.ifCond .ne 5, 3) := by decide +kernel
theorem dX13_sort_28 : decode cX13_sort 28 = .ok (.iconst 0, 1) := by decide +kernel
theorem dX13_sort_29 : decode cX13_sort 29 = .ok (.ireturn, 1) := by decide +kernel
theorem dX13_sort_8 : decode cX13_sort 8 = .ok (.iload_n 2, 1) := by decide +kernel
theorem dX13_sort_9 : decode cX13_sort 9 = .ok (.invokestatic 44, 3) := by decide +kernel
theorem dX13_sort_12 : decode cX13_sort 12 = .ok (.ifCond .eq 7, 3) := by decide +kernel
theorem dX13_sort_15 : decode cX13_sort 15 = .ok (.iconst 1, 1) := by decide +kernel
theorem dX13_sort_16 : decode cX13_sort 16 = .ok (.goto 4, 3) := by decide +kernel
theorem dX13_sort_30 : decode cX13_sort 30 = .ok (.new 147, 3) := by decide +kernel
theorem dX13_sort_33 : decode cX13_sort 33 = .ok (.dup, 1) := by decide +kernel
theorem dX13_sort_34 : decode cX13_sort 34 = .ok (.aload_n 0, 1) := by decide +kernel
theorem dX13_sort_35 : decode cX13_sort 35 = .ok (.aload_n 0, 1) := by decide +kernel
theorem dX13_sort_36 : decode cX13_sort 36 = .ok (.getfield 29, 3) := by decide +kernel
theorem dX13_sort_39 : decode cX13_sort 39 = .ok (.iload_n 1, 1) := by decide +kernel
theorem dX13_sort_40 : decode cX13_sort 40 = .ok (.aaload, 1) := by decide +kernel
theorem dX13_sort_41 : decode cX13_sort 41 = .ok (.iload_n 2, 1) := by decide +kernel
theorem dX13_sort_42 : decode cX13_sort 42 = .ok (.aload_n 0, 1) := by decide +kernel
theorem dX13_sort_43 : decode cX13_sort 43 = .ok (.getfield 35, 3) := by decide +kernel
theorem ggX13_sort_X12_init_h : GoodIn wsX13_sort [.code yX12_init cX12_init 6 none] := goodIn_r _ [20] (by decide +kernel) (by decide +kernel)
theorem ggX13_sort_X12_init_0 : GoodIn wsX13_sort wsX12_init_r1 := goodIn_r _ [21, 22, 23, 24, 25, 26, 27, 28, 29, 30, 31, 32, 33, 34, 35, 36, 37, 38, 39, 40, 41, 42, 43, 44] (by decide +kernel) (by decide +kernel)
theorem ggX13_sort_X12_init_1 : GoodIn wsX13_sort wsX12_init_r2 := goodIn_r _ [45, 46, 47, 48, 49, 8, 50, 51, 52, 53, 54, 55, 56, 57, 58, 59, 60, 61, 62, 63, 64, 65, 66, 67] (by decide +kernel) (by decide +kernel)
theorem ggX13_sort_X12_init_2 : GoodIn wsX13_sort wsX12_init_r3 := goodIn_r _ [68, 69, 70, 71, 72, 73, 74, 75, 76, 77, 78, 79, 80, 81, 82, 83, 84, 85, 86, 87, 88, 89, 90, 91] (by decide +kernel) (by decide +kernel)
theorem ggX13_sort_X12_init_3 : GoodIn wsX13_sort wsX12_init_r4 := goodIn_r _ [92, 93, 94, 95, 96, 97, 98, 99, 100, 101, 102, 103, 104, 105, 106, 107, 108, 109, 110, 111, 112, 113, 114, 115] (by decide +kernel) (by decide +kernel)
theorem ggX13_sort_X12_init_4 : GoodIn wsX13_sort wsX12_init_r5 := goodIn_r _ [116, 117, 118, 119, 120, 121, 122, 123, 124, 125, 126, 127, 128, 129, 130, 131, 132, 133, 134, 135, 136, 137, 138, 139] (by decide +kernel) (by decide +kernel)
theorem ggX13_sort_X12_init_5 : GoodIn wsX13_sort wsX12_init_r6 := goodIn_r _ [140, 141, 142, 143, 144, 145, 146, 147, 148, 149, 150, 151, 152, 153, 154, 155, 156, 157, 158, 159, 160, 161, 162, 163] (by decide +kernel) (by decide +kernel)
theorem ggX13_sort_X12_init_6 : GoodIn wsX13_sort wsX12_init_r7 := goodIn_r _ [164, 165, 166, 167, 168, 169, 170, 171, 172, 173, 174, 175, 176, 177, 178, 179, 180, 181, 182, 183, 184, 185, 186, 187] (by decide +kernel) (by decide +kernel)
theorem ggX13_sort_X12_init_7 : GoodIn wsX13_sort wsX12_init_r8 := goodIn_r _ [188, 3, 189, 190, 191, 192, 193, 194, 195, 196, 197, 198] (by decide +kernel) (by decide +kernel)
theorem ggX13_sort_X12_init_8 : GoodIn wsX13_sort wsX120 := goodIn_r _ [244, 245, 246, 247, 248, 249, 250, 251, 252, 253, 254, 255] (by decide +kernel) (by decide +kernel)
theorem ggX13_sort_X12_init_9 : GoodIn wsX13_sort wsJx4a65c0 := goodIn_r _ [270, 271, 272] (by decide +kernel) (by decide +kernel)
theorem ggX13_sort_X12_init_10 : GoodIn wsX13_sort wsJ60 := goodIn_r _ [273] (by decide +kernel) (by decide +kernel)
theorem ggX13_sort_X12_init_11 : GoodIn wsX13_sort wsX130 := goodIn_r _ [256, 257, 258, 259, 260, 261, 262, 263, 264, 265, 266, 267, 268, 269] (by decide +kernel) (by decide +kernel)
set_option maxRecDepth 20000 in
theorem ggX13_sort_X12_init : GoodIn wsX13_sort wsX12_init := (fun w h => (List.mem_cons.mp h).elim (fun e => ggX13_sort_X12_init_h w (List.mem_singleton.mpr e)) (fun h => (goodIn_app (goodIn_app (goodIn_app (goodIn_app (goodIn_app ggX13_sort_X12_init_0 (goodIn_app ggX13_sort_X12_init_1 (goodIn_app ggX13_sort_X12_init_2 (goodIn_app ggX13_sort_X12_init_3 (goodIn_app ggX13_sort_X12_init_4 (goodIn_app ggX13_sort_X12_init_5 (goodIn_app ggX13_sort_X12_init_6 ggX13_sort_X12_init_7))))))) ggX13_sort_X12_init_8) ggX13_sort_X12_init_9) ggX13_sort_X12_init_10) ggX13_sort_X12_init_11) w h))
set_option maxRecDepth 20000 in
theorem gX13_sort_X12_init : GoodIn wsX13_sort (wsX12_init) := ggX13_sort_X12_init
theorem dX13_sort_46 : decode cX13_sort 46 = .ok (.invokespecial 149, 3) := by decide +kernel
theorem dX13_sort_49 : decode cX13_sort 49 = .ok (.astore_n 3, 1) := by decide +kernel
theorem dX13_sort_50 : decode cX13_sort 50 = .ok (.aload_n 3, 1) := by decide +kernel
set_option maxRecDepth 20000 in
theorem ggX13_sort_X12_goes : GoodIn wsX13_sort wsX12_goes := goodIn_r _ [202, 203, 204, 205, 3, 206, 207, 208, 209, 210, 30, 211, 195, 139, 140, 29, 141, 86, 197, 143, 144, 145, 146, 147, 148, 149, 150, 151, 152, 153, 154, 155, 156, 157, 38, 212, 213, 214, 215, 191, 25, 21, 26, 31, 216, 33, 217, 27, 28, 218, 219, 220, 221, 222, 223, 58, 59, 60, 224, 100, 101, 34, 35, 36, 37, 39, 40, 41, 42, 43, 44, 45, 46, 47, 48, 23, 24, 198, 81, 82, 83, 84, 85, 87, 88, 89, 90, 91, 92, 93, 94, 95, 96, 97, 98, 99, 102, 103, 104, 105, 106, 107, 108, 109, 110, 111, 112, 113, 114, 115, 116, 117, 118, 119, 120, 121, 122, 123, 124, 125, 126, 127, 128, 129, 225, 226, 227, 183, 8, 184, 185, 162, 163, 164, 165, 166, 228, 229, 230, 231, 232, 233, 234, 235, 236, 237, 238, 239, 244, 245, 246, 247, 248, 249, 250, 251, 252, 253, 254, 255, 270, 271, 272, 256, 257, 258, 259, 260, 261, 262, 263, 264, 265, 266, 267, 268, 269] (by decide +kernel) (by decide +kernel)
set_option maxRecDepth 20000 in
theorem gX13_sort_X12_goes : GoodIn wsX13_sort (wsV RX13 155 RX12 yX12_goes wsX12_goes) := goodIn_app (goodIn_of _ (by decide +kernel)) ggX13_sort_X12_goes
theorem dX13_sort_51 : decode cX13_sort 51 = .ok (.invokevirtual 155, 3) := by decide +kernel
theorem dX13_sort_54 : decode cX13_sort 54 = .ok (.aload_n 0, 1) := by decide +kernel
theorem dX13_sort_55 : decode cX13_sort 55 = .ok (.getfield 29, 3) := by decide +kernel
theorem dX13_sort_58 : decode cX13_sort 58 = .ok (.iload_n 2, 1) := by decide +kernel
theorem dX13_sort_59 : decode cX13_sort 59 = .ok (.aload_n 3, 1) := by decide +kernel
set_option maxRecDepth 20000 in
theorem ggX13_sort_X12_result : GoodIn wsX13_sort wsX12_result := goodIn_r _ [243, 30, 211, 191, 25, 195, 139, 140, 29, 141, 86, 197, 143, 144, 145, 146, 147, 148, 149, 150, 151, 152, 153, 154, 155, 156, 157, 38, 196, 131, 132, 133, 244, 245, 246, 247, 248, 249, 250, 251, 252, 253, 254, 255, 270, 271, 272] (by decide +kernel) (by decide +kernel)
set_option maxRecDepth 20000 in
theorem gX13_sort_X12_result : GoodIn wsX13_sort (wsV RX13 176 RX12 yX12_result wsX12_result) := goodIn_app (goodIn_of _ (by decide +kernel)) ggX13_sort_X12_result
theorem dX13_sort_60 : decode cX13_sort 60 = .ok (.invokevirtual 176, 3) := by decide +kernel
theorem dX13_sort_63 : decode cX13_sort 63 = .ok (.aastore, 1) := by decide +kernel
theorem dX13_sort_64 : decode cX13_sort 64 = .ok (.aload_n 3, 1) := by decide +kernel
theorem dX13_sort_65 : decode cX13_sort 65 = .ok (.getfield 152, 3) := by decide +kernel
theorem dX13_sort_68 : decode cX13_sort 68 = .ok (.ireturn, 1) := by decide +kernel
theorem dX13_leastMoves_0 : decode cX13_leastMoves 0 = .ok (.aload_n 0, 1) := by decide +kernel
theorem dX13_leastMoves_1 : decode cX13_leastMoves 1 = .ok (.iload_n 1, 1) := by decide +kernel
set_option maxRecDepth 20000 in
theorem ggX13_leastMoves_X13_isTape : GoodIn wsX13_leastMoves wsX13_isTape := goodIn_r _ [10, 11, 12, 9, 13] (by decide +kernel) (by decide +kernel)
set_option maxRecDepth 20000 in
theorem gX13_leastMoves_X13_isTape : GoodIn wsX13_leastMoves (va_wsS RX13 44 yX13_isTape wsX13_isTape) := goodIn_app (goodIn_of _ (by decide +kernel)) ggX13_leastMoves_X13_isTape
theorem dX13_leastMoves_2 : decode cX13_leastMoves 2 = .ok (.invokestatic 44, 3) := by decide +kernel
theorem dX13_leastMoves_5 : decode cX13_leastMoves 5 = .ok (.iconst 1, 1) := by decide +kernel
theorem dX13_leastMoves_6 : decode cX13_leastMoves 6 = .ok (.iconst 1, 1) := by decide +kernel
set_option maxRecDepth 20000 in
theorem ggX13_leastMoves_X13_passes : GoodIn wsX13_leastMoves wsX13_passes := goodIn_r _ [17, 18, 240, 241, 242, 243, 244, 245, 246, 247, 248, 249, 250, 251, 252, 253] (by decide +kernel) (by decide +kernel)
set_option maxRecDepth 20000 in
theorem gX13_leastMoves_X13_passes : GoodIn wsX13_leastMoves (wsV RX13 55 RX13 yX13_passes wsX13_passes) := goodIn_app (goodIn_of _ (by decide +kernel)) ggX13_leastMoves_X13_passes
theorem dX13_leastMoves_7 : decode cX13_leastMoves 7 = .ok (.invokevirtual 55, 3) := by decide +kernel
theorem dX13_leastMoves_10 : decode cX13_leastMoves 10 = .ok (.ifCond .ne 5, 3) := by decide +kernel
theorem dX13_leastMoves_15 : decode cX13_leastMoves 15 = .ok (.iconst 5, 1) := by decide +kernel
theorem dX13_leastMoves_16 : decode cX13_leastMoves 16 = .ok (.newarray .int, 2) := by decide +kernel
theorem dX13_leastMoves_18 : decode cX13_leastMoves 18 = .ok (.dup, 1) := by decide +kernel
theorem dX13_leastMoves_19 : decode cX13_leastMoves 19 = .ok (.iconst 0, 1) := by decide +kernel
theorem dX13_leastMoves_20 : decode cX13_leastMoves 20 = .ok (.aload_n 0, 1) := by decide +kernel
theorem dX13_leastMoves_21 : decode cX13_leastMoves 21 = .ok (.getfield 35, 3) := by decide +kernel
theorem dX13_leastMoves_24 : decode cX13_leastMoves 24 = .ok (.iconst 0, 1) := by decide +kernel
theorem dX13_leastMoves_25 : decode cX13_leastMoves 25 = .ok (.iaload, 1) := by decide +kernel
theorem dX13_leastMoves_26 : decode cX13_leastMoves 26 = .ok (.iastore, 1) := by decide +kernel
theorem dX13_leastMoves_27 : decode cX13_leastMoves 27 = .ok (.dup, 1) := by decide +kernel
theorem dX13_leastMoves_28 : decode cX13_leastMoves 28 = .ok (.iconst 1, 1) := by decide +kernel
theorem dX13_leastMoves_29 : decode cX13_leastMoves 29 = .ok (.aload_n 0, 1) := by decide +kernel
theorem dX13_leastMoves_30 : decode cX13_leastMoves 30 = .ok (.getfield 35, 3) := by decide +kernel
theorem dX13_leastMoves_33 : decode cX13_leastMoves 33 = .ok (.iconst 1, 1) := by decide +kernel
theorem dX13_leastMoves_34 : decode cX13_leastMoves 34 = .ok (.iaload, 1) := by decide +kernel
theorem dX13_leastMoves_35 : decode cX13_leastMoves 35 = .ok (.iastore, 1) := by decide +kernel
theorem dX13_leastMoves_36 : decode cX13_leastMoves 36 = .ok (.dup, 1) := by decide +kernel
theorem dX13_leastMoves_37 : decode cX13_leastMoves 37 = .ok (.iconst 2, 1) := by decide +kernel
theorem dX13_leastMoves_38 : decode cX13_leastMoves 38 = .ok (.aload_n 0, 1) := by decide +kernel
theorem dX13_leastMoves_39 : decode cX13_leastMoves 39 = .ok (.getfield 35, 3) := by decide +kernel
theorem dX13_leastMoves_42 : decode cX13_leastMoves 42 = .ok (.iconst 2, 1) := by decide +kernel
theorem dX13_leastMoves_43 : decode cX13_leastMoves 43 = .ok (.iaload, 1) := by decide +kernel
theorem dX13_leastMoves_44 : decode cX13_leastMoves 44 = .ok (.iastore, 1) := by decide +kernel
theorem dX13_leastMoves_45 : decode cX13_leastMoves 45 = .ok (.dup, 1) := by decide +kernel
theorem dX13_leastMoves_46 : decode cX13_leastMoves 46 = .ok (.iconst 3, 1) := by decide +kernel
theorem dX13_leastMoves_47 : decode cX13_leastMoves 47 = .ok (.iconst 1, 1) := by decide +kernel
theorem dX13_leastMoves_48 : decode cX13_leastMoves 48 = .ok (.iastore, 1) := by decide +kernel
theorem dX13_leastMoves_49 : decode cX13_leastMoves 49 = .ok (.dup, 1) := by decide +kernel
theorem dX13_leastMoves_50 : decode cX13_leastMoves 50 = .ok (.iconst 4, 1) := by decide +kernel
theorem dX13_leastMoves_51 : decode cX13_leastMoves 51 = .ok (.iconst 2, 1) := by decide +kernel
theorem dX13_leastMoves_52 : decode cX13_leastMoves 52 = .ok (.iastore, 1) := by decide +kernel
theorem dX13_leastMoves_53 : decode cX13_leastMoves 53 = .ok (.astore_n 2, 1) := by decide +kernel
theorem dX13_leastMoves_54 : decode cX13_leastMoves 54 = .ok (.new 147, 3) := by decide +kernel
theorem dX13_leastMoves_57 : decode cX13_leastMoves 57 = .ok (.dup, 1) := by decide +kernel
theorem dX13_leastMoves_58 : decode cX13_leastMoves 58 = .ok (.aload_n 0, 1) := by decide +kernel
theorem dX13_leastMoves_59 : decode cX13_leastMoves 59 = .ok (.aload_n 0, 1) := by decide +kernel
theorem dX13_leastMoves_60 : decode cX13_leastMoves 60 = .ok (.getfield 29, 3) := by decide +kernel
theorem dX13_leastMoves_63 : decode cX13_leastMoves 63 = .ok (.iload_n 1, 1) := by decide +kernel
theorem dX13_leastMoves_64 : decode cX13_leastMoves 64 = .ok (.aaload, 1) := by decide +kernel
theorem dX13_leastMoves_65 : decode cX13_leastMoves 65 = .ok (.iconst 0, 1) := by decide +kernel
theorem dX13_leastMoves_66 : decode cX13_leastMoves 66 = .ok (.aload_n 2, 1) := by decide +kernel
theorem ggX13_leastMoves_X12_init_h : GoodIn wsX13_leastMoves [.code yX12_init cX12_init 6 none] := goodIn_r _ [21] (by decide +kernel) (by decide +kernel)
theorem ggX13_leastMoves_X12_init_0 : GoodIn wsX13_leastMoves wsX12_init_r1 := goodIn_r _ [22, 23, 24, 25, 1, 26, 27, 28, 29, 30, 31, 32, 33, 34, 35, 36, 37, 38, 39, 40, 41, 42, 43, 44] (by decide +kernel) (by decide +kernel)
theorem ggX13_leastMoves_X12_init_1 : GoodIn wsX13_leastMoves wsX12_init_r2 := goodIn_r _ [45, 46, 47, 48, 49, 9, 50, 51, 52, 53, 54, 55, 56, 57, 58, 59, 60, 61, 62, 63, 64, 65, 66, 67] (by decide +kernel) (by decide +kernel)
theorem ggX13_leastMoves_X12_init_2 : GoodIn wsX13_leastMoves wsX12_init_r3 := goodIn_r _ [68, 69, 70, 71, 72, 73, 74, 75, 76, 77, 78, 79, 80, 81, 82, 83, 84, 85, 86, 87, 88, 89, 90, 91] (by decide +kernel) (by decide +kernel)
theorem ggX13_leastMoves_X12_init_3 : GoodIn wsX13_leastMoves wsX12_init_r4 := goodIn_r _ [92, 93, 94, 95, 96, 97, 98, 99, 100, 101, 102, 103, 104, 105, 106, 107, 108, 109, 110, 111, 112, 113, 114, 115] (by decide +kernel) (by decide +kernel)
theorem ggX13_leastMoves_X12_init_4 : GoodIn wsX13_leastMoves wsX12_init_r5 := goodIn_r _ [116, 117, 118, 119, 120, 121, 122, 123, 124, 125, 126, 127, 128, 129, 130, 131, 132, 133, 134, 135, 136, 137, 138, 139] (by decide +kernel) (by decide +kernel)
theorem ggX13_leastMoves_X12_init_5 : GoodIn wsX13_leastMoves wsX12_init_r6 := goodIn_r _ [140, 141, 142, 143, 144, 145, 146, 147, 148, 149, 150, 151, 152, 153, 154, 155, 156, 157, 158, 159, 160, 161, 162, 163] (by decide +kernel) (by decide +kernel)
theorem ggX13_leastMoves_X12_init_6 : GoodIn wsX13_leastMoves wsX12_init_r7 := goodIn_r _ [164, 165, 166, 167, 168, 169, 170, 171, 172, 173, 174, 175, 176, 177, 178, 179, 180, 181, 182, 183, 184, 185, 186, 187] (by decide +kernel) (by decide +kernel)
theorem ggX13_leastMoves_X12_init_7 : GoodIn wsX13_leastMoves wsX12_init_r8 := goodIn_r _ [188, 5, 189, 190, 191, 192, 193, 194, 195, 196, 197, 198] (by decide +kernel) (by decide +kernel)
theorem ggX13_leastMoves_X12_init_8 : GoodIn wsX13_leastMoves wsX120 := goodIn_r _ [254, 255, 256, 257, 258, 259, 260, 261, 262, 263, 264, 265] (by decide +kernel) (by decide +kernel)
theorem ggX13_leastMoves_X12_init_9 : GoodIn wsX13_leastMoves wsJx4a65c0 := goodIn_r _ [266, 267, 268] (by decide +kernel) (by decide +kernel)
theorem ggX13_leastMoves_X12_init_10 : GoodIn wsX13_leastMoves wsJ60 := goodIn_r _ [269] (by decide +kernel) (by decide +kernel)
theorem ggX13_leastMoves_X12_init_11 : GoodIn wsX13_leastMoves wsX130 := goodIn_r _ [240, 241, 242, 243, 244, 245, 246, 247, 248, 249, 250, 251, 252, 253] (by decide +kernel) (by decide +kernel)
set_option maxRecDepth 20000 in
theorem ggX13_leastMoves_X12_init : GoodIn wsX13_leastMoves wsX12_init := (fun w h => (List.mem_cons.mp h).elim (fun e => ggX13_leastMoves_X12_init_h w (List.mem_singleton.mpr e)) (fun h => (goodIn_app (goodIn_app (goodIn_app (goodIn_app (goodIn_app ggX13_leastMoves_X12_init_0 (goodIn_app ggX13_leastMoves_X12_init_1 (goodIn_app ggX13_leastMoves_X12_init_2 (goodIn_app ggX13_leastMoves_X12_init_3 (goodIn_app ggX13_leastMoves_X12_init_4 (goodIn_app ggX13_leastMoves_X12_init_5 (goodIn_app ggX13_leastMoves_X12_init_6 ggX13_leastMoves_X12_init_7))))))) ggX13_leastMoves_X12_init_8) ggX13_leastMoves_X12_init_9) ggX13_leastMoves_X12_init_10) ggX13_leastMoves_X12_init_11) w h))
set_option maxRecDepth 20000 in
theorem gX13_leastMoves_X12_init : GoodIn wsX13_leastMoves (wsX12_init) := ggX13_leastMoves_X12_init
theorem dX13_leastMoves_67 : decode cX13_leastMoves 67 = .ok (.invokespecial 149, 3) := by decide +kernel
theorem dX13_leastMoves_70 : decode cX13_leastMoves 70 = .ok (.astore_n 3, 1) := by decide +kernel
theorem dX13_leastMoves_71 : decode cX13_leastMoves 71 = .ok (.aload_n 3, 1) := by decide +kernel
theorem dX13_leastMoves_72 : decode cX13_leastMoves 72 = .ok (.getfield 152, 3) := by decide +kernel
theorem dX13_leastMoves_75 : decode cX13_leastMoves 75 = .ok (.istore 4, 2) := by decide +kernel
theorem dX13_leastMoves_77 : decode cX13_leastMoves 77 = .ok (.aload_n 3, 1) := by decide +kernel
set_option maxRecDepth 20000 in
theorem ggX13_leastMoves_X12_goes : GoodIn wsX13_leastMoves wsX12_goes := goodIn_r _ [202, 203, 204, 205, 5, 206, 207, 208, 209, 210, 30, 211, 195, 139, 140, 29, 141, 86, 197, 143, 144, 145, 146, 147, 148, 149, 150, 151, 152, 153, 154, 155, 156, 157, 38, 212, 213, 214, 215, 191, 1, 22, 26, 31, 216, 33, 217, 27, 28, 218, 219, 220, 221, 222, 223, 58, 59, 60, 224, 100, 101, 34, 35, 36, 37, 39, 40, 41, 42, 43, 44, 45, 46, 47, 48, 24, 25, 198, 81, 82, 83, 84, 85, 87, 88, 89, 90, 91, 92, 93, 94, 95, 96, 97, 98, 99, 102, 103, 104, 105, 106, 107, 108, 109, 110, 111, 112, 113, 114, 115, 116, 117, 118, 119, 120, 121, 122, 123, 124, 125, 126, 127, 128, 129, 225, 226, 227, 183, 9, 184, 185, 162, 163, 164, 165, 166, 228, 229, 230, 231, 232, 233, 234, 235, 236, 237, 238, 239, 254, 255, 256, 257, 258, 259, 260, 261, 262, 263, 264, 265, 266, 267, 268, 240, 241, 242, 243, 244, 245, 246, 247, 248, 249, 250, 251, 252, 253] (by decide +kernel) (by decide +kernel)
set_option maxRecDepth 20000 in
theorem gX13_leastMoves_X12_goes : GoodIn wsX13_leastMoves (wsV RX13 155 RX12 yX12_goes wsX12_goes) := goodIn_app (goodIn_of _ (by decide +kernel)) ggX13_leastMoves_X12_goes
theorem dX13_leastMoves_78 : decode cX13_leastMoves 78 = .ok (.invokevirtual 155, 3) := by decide +kernel
theorem dX13_leastMoves_81 : decode cX13_leastMoves 81 = .ok (.aload_n 3, 1) := by decide +kernel
theorem dX13_leastMoves_82 : decode cX13_leastMoves 82 = .ok (.getfield 152, 3) := by decide +kernel
theorem dX13_leastMoves_85 : decode cX13_leastMoves 85 = .ok (.iload 4, 2) := by decide +kernel
theorem dX13_leastMoves_87 : decode cX13_leastMoves 87 = .ok (.isub, 1) := by decide +kernel
theorem dX13_leastMoves_88 : decode cX13_leastMoves 88 = .ok (.ireturn, 1) := by decide +kernel
theorem dX13_leastMoves_13 : decode cX13_leastMoves 13 = .ok (.iconst 0, 1) := by decide +kernel
theorem dX13_leastMoves_14 : decode cX13_leastMoves 14 = .ok (.ireturn, 1) := by decide +kernel
theorem dX13_plan_0 : decode cX13_plan 0 = .ok (.aload_n 0, 1) := by decide +kernel
theorem dX13_plan_1 : decode cX13_plan 1 = .ok (.iload_n 1, 1) := by decide +kernel
set_option maxRecDepth 20000 in
theorem ggX13_plan_X13_isTape : GoodIn wsX13_plan wsX13_isTape := goodIn_r _ [10, 11, 12, 9, 13] (by decide +kernel) (by decide +kernel)
set_option maxRecDepth 20000 in
theorem gX13_plan_X13_isTape : GoodIn wsX13_plan (va_wsS RX13 44 yX13_isTape wsX13_isTape) := goodIn_app (goodIn_of _ (by decide +kernel)) ggX13_plan_X13_isTape
theorem dX13_plan_2 : decode cX13_plan 2 = .ok (.invokestatic 44, 3) := by decide +kernel
theorem dX13_plan_5 : decode cX13_plan 5 = .ok (.iload_n 2, 1) := by decide +kernel
theorem dX13_plan_6 : decode cX13_plan 6 = .ok (.iconst 0, 1) := by decide +kernel
theorem dX13_plan_7 : decode cX13_plan 7 = .ok (.iconst 3, 1) := by decide +kernel
set_option maxRecDepth 20000 in
theorem ggX13_plan_X13_in : GoodIn wsX13_plan wsX13_in := goodIn_r _ [13] (by decide +kernel) (by decide +kernel)
set_option maxRecDepth 20000 in
theorem gX13_plan_X13_in : GoodIn wsX13_plan (va_wsS RX13 7 yX13_in wsX13_in) := goodIn_app (goodIn_of _ (by decide +kernel)) ggX13_plan_X13_in
theorem dX13_plan_8 : decode cX13_plan 8 = .ok (.invokestatic 7, 3) := by decide +kernel
theorem dX13_plan_11 : decode cX13_plan 11 = .ok (.iconst 1, 1) := by decide +kernel
set_option maxRecDepth 20000 in
theorem ggX13_plan_X13_passes : GoodIn wsX13_plan wsX13_passes := goodIn_r _ [17, 18, 252, 253, 254, 255, 256, 257, 258, 259, 260, 261, 262, 263, 264, 265] (by decide +kernel) (by decide +kernel)
set_option maxRecDepth 20000 in
theorem gX13_plan_X13_passes : GoodIn wsX13_plan (wsV RX13 55 RX13 yX13_passes wsX13_passes) := goodIn_app (goodIn_of _ (by decide +kernel)) ggX13_plan_X13_passes
theorem dX13_plan_12 : decode cX13_plan 12 = .ok (.invokevirtual 55, 3) := by decide +kernel
theorem dX13_plan_15 : decode cX13_plan 15 = .ok (.ifCond .ne 5, 3) := by decide +kernel
theorem dX13_plan_20 : decode cX13_plan 20 = .ok (.new 147, 3) := by decide +kernel
theorem dX13_plan_23 : decode cX13_plan 23 = .ok (.dup, 1) := by decide +kernel
theorem dX13_plan_24 : decode cX13_plan 24 = .ok (.aload_n 0, 1) := by decide +kernel
theorem dX13_plan_25 : decode cX13_plan 25 = .ok (.aload_n 0, 1) := by decide +kernel
theorem dX13_plan_26 : decode cX13_plan 26 = .ok (.getfield 29, 3) := by decide +kernel
theorem dX13_plan_29 : decode cX13_plan 29 = .ok (.iload_n 1, 1) := by decide +kernel
theorem dX13_plan_30 : decode cX13_plan 30 = .ok (.aaload, 1) := by decide +kernel
theorem dX13_plan_31 : decode cX13_plan 31 = .ok (.iconst 0, 1) := by decide +kernel
theorem dX13_plan_32 : decode cX13_plan 32 = .ok (.aload_n 0, 1) := by decide +kernel
theorem dX13_plan_33 : decode cX13_plan 33 = .ok (.getfield 35, 3) := by decide +kernel
theorem ggX13_plan_X12_init_h : GoodIn wsX13_plan [.code yX12_init cX12_init 6 none] := goodIn_r _ [21] (by decide +kernel) (by decide +kernel)
theorem ggX13_plan_X12_init_0 : GoodIn wsX13_plan wsX12_init_r1 := goodIn_r _ [22, 23, 24, 25, 6, 26, 27, 28, 29, 30, 31, 32, 33, 34, 35, 36, 37, 38, 39, 40, 41, 42, 43, 44] (by decide +kernel) (by decide +kernel)
theorem ggX13_plan_X12_init_1 : GoodIn wsX13_plan wsX12_init_r2 := goodIn_r _ [45, 46, 47, 48, 49, 9, 50, 51, 52, 53, 54, 55, 56, 57, 58, 59, 60, 61, 62, 63, 64, 65, 66, 67] (by decide +kernel) (by decide +kernel)
theorem ggX13_plan_X12_init_2 : GoodIn wsX13_plan wsX12_init_r3 := goodIn_r _ [68, 69, 70, 71, 72, 73, 74, 75, 76, 77, 78, 79, 80, 81, 82, 83, 84, 85, 86, 87, 88, 89, 90, 91] (by decide +kernel) (by decide +kernel)
theorem ggX13_plan_X12_init_3 : GoodIn wsX13_plan wsX12_init_r4 := goodIn_r _ [92, 93, 94, 95, 96, 97, 98, 99, 100, 101, 102, 103, 104, 105, 106, 107, 108, 109, 110, 111, 112, 113, 114, 115] (by decide +kernel) (by decide +kernel)
theorem ggX13_plan_X12_init_4 : GoodIn wsX13_plan wsX12_init_r5 := goodIn_r _ [116, 117, 118, 119, 120, 121, 122, 123, 124, 125, 126, 127, 128, 129, 130, 131, 132, 133, 134, 135, 136, 137, 138, 139] (by decide +kernel) (by decide +kernel)
theorem ggX13_plan_X12_init_5 : GoodIn wsX13_plan wsX12_init_r6 := goodIn_r _ [140, 141, 142, 143, 144, 145, 146, 147, 148, 149, 150, 151, 152, 153, 154, 155, 156, 157, 158, 159, 160, 161, 162, 163] (by decide +kernel) (by decide +kernel)
theorem ggX13_plan_X12_init_6 : GoodIn wsX13_plan wsX12_init_r7 := goodIn_r _ [164, 165, 166, 167, 168, 169, 170, 171, 172, 173, 174, 175, 176, 177, 178, 179, 180, 181, 182, 183, 184, 185, 186, 187] (by decide +kernel) (by decide +kernel)
theorem ggX13_plan_X12_init_7 : GoodIn wsX13_plan wsX12_init_r8 := goodIn_r _ [188, 3, 189, 190, 191, 192, 193, 194, 195, 196, 197, 198] (by decide +kernel) (by decide +kernel)
theorem ggX13_plan_X12_init_8 : GoodIn wsX13_plan wsX120 := goodIn_r _ [240, 241, 242, 243, 244, 245, 246, 247, 248, 249, 250, 251] (by decide +kernel) (by decide +kernel)
theorem ggX13_plan_X12_init_9 : GoodIn wsX13_plan wsJx4a65c0 := goodIn_r _ [266, 267, 268] (by decide +kernel) (by decide +kernel)
theorem ggX13_plan_X12_init_10 : GoodIn wsX13_plan wsJ60 := goodIn_r _ [269] (by decide +kernel) (by decide +kernel)
theorem ggX13_plan_X12_init_11 : GoodIn wsX13_plan wsX130 := goodIn_r _ [252, 253, 254, 255, 256, 257, 258, 259, 260, 261, 262, 263, 264, 265] (by decide +kernel) (by decide +kernel)
set_option maxRecDepth 20000 in
theorem ggX13_plan_X12_init : GoodIn wsX13_plan wsX12_init := (fun w h => (List.mem_cons.mp h).elim (fun e => ggX13_plan_X12_init_h w (List.mem_singleton.mpr e)) (fun h => (goodIn_app (goodIn_app (goodIn_app (goodIn_app (goodIn_app ggX13_plan_X12_init_0 (goodIn_app ggX13_plan_X12_init_1 (goodIn_app ggX13_plan_X12_init_2 (goodIn_app ggX13_plan_X12_init_3 (goodIn_app ggX13_plan_X12_init_4 (goodIn_app ggX13_plan_X12_init_5 (goodIn_app ggX13_plan_X12_init_6 ggX13_plan_X12_init_7))))))) ggX13_plan_X12_init_8) ggX13_plan_X12_init_9) ggX13_plan_X12_init_10) ggX13_plan_X12_init_11) w h))
set_option maxRecDepth 20000 in
theorem gX13_plan_X12_init : GoodIn wsX13_plan (wsX12_init) := ggX13_plan_X12_init
theorem dX13_plan_36 : decode cX13_plan 36 = .ok (.invokespecial 149, 3) := by decide +kernel
theorem dX13_plan_39 : decode cX13_plan 39 = .ok (.astore_n 3, 1) := by decide +kernel
theorem dX13_plan_40 : decode cX13_plan 40 = .ok (.aload_n 3, 1) := by decide +kernel
theorem dX13_plan_41 : decode cX13_plan 41 = .ok (.getfield 152, 3) := by decide +kernel
theorem dX13_plan_44 : decode cX13_plan 44 = .ok (.istore 4, 2) := by decide +kernel
theorem dX13_plan_46 : decode cX13_plan 46 = .ok (.aload_n 3, 1) := by decide +kernel
set_option maxRecDepth 20000 in
theorem ggX13_plan_X12_goes : GoodIn wsX13_plan wsX12_goes := goodIn_r _ [202, 203, 204, 205, 3, 206, 207, 208, 209, 210, 30, 211, 195, 139, 140, 29, 141, 86, 197, 143, 144, 145, 146, 147, 148, 149, 150, 151, 152, 153, 154, 155, 156, 157, 38, 212, 213, 214, 215, 191, 6, 22, 26, 31, 216, 33, 217, 27, 28, 218, 219, 220, 221, 222, 223, 58, 59, 60, 224, 100, 101, 34, 35, 36, 37, 39, 40, 41, 42, 43, 44, 45, 46, 47, 48, 24, 25, 198, 81, 82, 83, 84, 85, 87, 88, 89, 90, 91, 92, 93, 94, 95, 96, 97, 98, 99, 102, 103, 104, 105, 106, 107, 108, 109, 110, 111, 112, 113, 114, 115, 116, 117, 118, 119, 120, 121, 122, 123, 124, 125, 126, 127, 128, 129, 225, 226, 227, 183, 9, 184, 185, 162, 163, 164, 165, 166, 228, 229, 230, 231, 232, 233, 234, 235, 236, 237, 238, 239, 240, 241, 242, 243, 244, 245, 246, 247, 248, 249, 250, 251, 266, 267, 268, 252, 253, 254, 255, 256, 257, 258, 259, 260, 261, 262, 263, 264, 265] (by decide +kernel) (by decide +kernel)
set_option maxRecDepth 20000 in
theorem gX13_plan_X12_goes : GoodIn wsX13_plan (wsV RX13 155 RX12 yX12_goes wsX12_goes) := goodIn_app (goodIn_of _ (by decide +kernel)) ggX13_plan_X12_goes
theorem dX13_plan_47 : decode cX13_plan 47 = .ok (.invokevirtual 155, 3) := by decide +kernel
theorem dX13_plan_50 : decode cX13_plan 50 = .ok (.iconst 4, 1) := by decide +kernel
theorem dX13_plan_51 : decode cX13_plan 51 = .ok (.newarray .int, 2) := by decide +kernel
theorem dX13_plan_53 : decode cX13_plan 53 = .ok (.dup, 1) := by decide +kernel
theorem dX13_plan_54 : decode cX13_plan 54 = .ok (.iconst 0, 1) := by decide +kernel
theorem dX13_plan_55 : decode cX13_plan 55 = .ok (.aload_n 3, 1) := by decide +kernel
theorem dX13_plan_56 : decode cX13_plan 56 = .ok (.getfield 158, 3) := by decide +kernel
theorem dX13_plan_59 : decode cX13_plan 59 = .ok (.iastore, 1) := by decide +kernel
theorem dX13_plan_60 : decode cX13_plan 60 = .ok (.dup, 1) := by decide +kernel
theorem dX13_plan_61 : decode cX13_plan 61 = .ok (.iconst 1, 1) := by decide +kernel
theorem dX13_plan_62 : decode cX13_plan 62 = .ok (.aload_n 3, 1) := by decide +kernel
theorem dX13_plan_63 : decode cX13_plan 63 = .ok (.getfield 152, 3) := by decide +kernel
theorem dX13_plan_66 : decode cX13_plan 66 = .ok (.iload 4, 2) := by decide +kernel
theorem dX13_plan_68 : decode cX13_plan 68 = .ok (.isub, 1) := by decide +kernel
theorem dX13_plan_69 : decode cX13_plan 69 = .ok (.iastore, 1) := by decide +kernel
theorem dX13_plan_70 : decode cX13_plan 70 = .ok (.dup, 1) := by decide +kernel
theorem dX13_plan_71 : decode cX13_plan 71 = .ok (.iconst 2, 1) := by decide +kernel
theorem dX13_plan_72 : decode cX13_plan 72 = .ok (.aload_n 3, 1) := by decide +kernel
theorem dX13_plan_73 : decode cX13_plan 73 = .ok (.getfield 160, 3) := by decide +kernel
theorem dX13_plan_76 : decode cX13_plan 76 = .ok (.iastore, 1) := by decide +kernel
theorem dX13_plan_77 : decode cX13_plan 77 = .ok (.dup, 1) := by decide +kernel
theorem dX13_plan_78 : decode cX13_plan 78 = .ok (.iconst 3, 1) := by decide +kernel
theorem dX13_plan_79 : decode cX13_plan 79 = .ok (.aload_n 3, 1) := by decide +kernel
theorem dX13_plan_80 : decode cX13_plan 80 = .ok (.getfield 163, 3) := by decide +kernel
theorem dX13_plan_83 : decode cX13_plan 83 = .ok (.iastore, 1) := by decide +kernel
theorem dX13_plan_84 : decode cX13_plan 84 = .ok (.astore 5, 2) := by decide +kernel
theorem dX13_plan_86 : decode cX13_plan 86 = .ok (.aload 5, 2) := by decide +kernel
theorem dX13_plan_88 : decode cX13_plan 88 = .ok (.iload_n 2, 1) := by decide +kernel
theorem dX13_plan_89 : decode cX13_plan 89 = .ok (.iaload, 1) := by decide +kernel
theorem dX13_plan_90 : decode cX13_plan 90 = .ok (.ireturn, 1) := by decide +kernel
theorem dX13_plan_18 : decode cX13_plan 18 = .ok (.iconst 0, 1) := by decide +kernel
theorem dX13_plan_19 : decode cX13_plan 19 = .ok (.ireturn, 1) := by decide +kernel
theorem dX13_ends_0 : decode cX13_ends 0 = .ok (.aload_n 0, 1) := by decide +kernel
theorem dX13_ends_1 : decode cX13_ends 1 = .ok (.getfield 166, 3) := by decide +kernel
set_option maxRecDepth 20000 in
theorem ggX13_ends_X12_isOver : GoodIn wsX13_ends wsX12_isOver := goodIn_r _ [7, 8, 9, 10, 6, 11, 12, 13, 14, 15, 16, 17, 18, 19, 20, 21, 22, 23, 24, 25, 26, 27, 28, 29, 30, 31, 32, 33, 34, 35, 36, 61, 62, 63, 64, 65, 66, 67, 68, 69, 70, 71, 72, 73, 74, 75] (by decide +kernel) (by decide +kernel)
set_option maxRecDepth 20000 in
theorem gX13_ends_X12_isOver : GoodIn wsX13_ends (wsV RX13 170 RX12 yX12_isOver wsX12_isOver) := goodIn_app (goodIn_of _ (by decide +kernel)) ggX13_ends_X12_isOver
theorem dX13_ends_4 : decode cX13_ends 4 = .ok (.invokevirtual 170, 3) := by decide +kernel
theorem dX13_ends_7 : decode cX13_ends 7 = .ok (.ifCond .eq 22, 3) := by decide +kernel
theorem dX13_ends_10 : decode cX13_ends 10 = .ok (.aload_n 0, 1) := by decide +kernel
theorem dX13_ends_11 : decode cX13_ends 11 = .ok (.getfield 29, 3) := by decide +kernel
theorem dX13_ends_14 : decode cX13_ends 14 = .ok (.aload_n 0, 1) := by decide +kernel
theorem dX13_ends_15 : decode cX13_ends 15 = .ok (.getfield 166, 3) := by decide +kernel
theorem dX13_ends_18 : decode cX13_ends 18 = .ok (.getfield 173, 3) := by decide +kernel
theorem dX13_ends_21 : decode cX13_ends 21 = .ok (.aload_n 0, 1) := by decide +kernel
theorem dX13_ends_22 : decode cX13_ends 22 = .ok (.getfield 166, 3) := by decide +kernel
set_option maxRecDepth 20000 in
theorem ggX13_ends_X12_result : GoodIn wsX13_ends wsX12_result := goodIn_r _ [40, 12, 13, 41, 42, 14, 15, 16, 17, 18, 19, 20, 21, 22, 23, 24, 25, 26, 27, 28, 29, 30, 31, 32, 33, 34, 35, 36, 43, 44, 45, 46, 61, 62, 63, 64, 65, 66, 67, 68, 69, 70, 71, 72, 73, 74, 75] (by decide +kernel) (by decide +kernel)
set_option maxRecDepth 20000 in
theorem gX13_ends_X12_result : GoodIn wsX13_ends (wsV RX13 176 RX12 yX12_result wsX12_result) := goodIn_app (goodIn_of _ (by decide +kernel)) ggX13_ends_X12_result
theorem dX13_ends_25 : decode cX13_ends 25 = .ok (.invokevirtual 176, 3) := by decide +kernel
theorem dX13_ends_28 : decode cX13_ends 28 = .ok (.aastore, 1) := by decide +kernel
theorem dX13_ends_29 : decode cX13_ends 29 = .ok (.return_, 1) := by decide +kernel
theorem dX13_begin_0 : decode cX13_begin 0 = .ok (.aload_n 0, 1) := by decide +kernel
theorem dX13_begin_1 : decode cX13_begin 1 = .ok (.iload_n 1, 1) := by decide +kernel
set_option maxRecDepth 20000 in
theorem ggX13_begin_X13_isTape : GoodIn wsX13_begin wsX13_isTape := goodIn_r _ [10, 11, 12, 9, 13] (by decide +kernel) (by decide +kernel)
set_option maxRecDepth 20000 in
theorem gX13_begin_X13_isTape : GoodIn wsX13_begin (va_wsS RX13 44 yX13_isTape wsX13_isTape) := goodIn_app (goodIn_of _ (by decide +kernel)) ggX13_begin_X13_isTape
theorem dX13_begin_2 : decode cX13_begin 2 = .ok (.invokestatic 44, 3) := by decide +kernel
theorem dX13_begin_5 : decode cX13_begin 5 = .ok (.ifCond .eq 14, 3) := by decide +kernel
theorem dX13_begin_19 : decode cX13_begin 19 = .ok (.iconst 0, 1) := by decide +kernel
theorem dX13_begin_20 : decode cX13_begin 20 = .ok (.iconst 1, 1) := by decide +kernel
theorem dX13_begin_21 : decode cX13_begin 21 = .ok (.iconst 1, 1) := by decide +kernel
set_option maxRecDepth 20000 in
theorem ggX13_begin_X13_passes : GoodIn wsX13_begin wsX13_passes := goodIn_r _ [17, 18, 234, 235, 236, 237, 238, 239, 240, 241, 242, 243, 244, 245, 246, 247] (by decide +kernel) (by decide +kernel)
set_option maxRecDepth 20000 in
theorem gX13_begin_X13_passes : GoodIn wsX13_begin (wsV RX13 55 RX13 yX13_passes wsX13_passes) := goodIn_app (goodIn_of _ (by decide +kernel)) ggX13_begin_X13_passes
theorem dX13_begin_22 : decode cX13_begin 22 = .ok (.invokevirtual 55, 3) := by decide +kernel
theorem dX13_begin_25 : decode cX13_begin 25 = .ok (.ifCond .ne 5, 3) := by decide +kernel
theorem dX13_begin_28 : decode cX13_begin 28 = .ok (.iconst 0, 1) := by decide +kernel
theorem dX13_begin_29 : decode cX13_begin 29 = .ok (.ireturn, 1) := by decide +kernel
theorem dX13_begin_8 : decode cX13_begin 8 = .ok (.iload_n 2, 1) := by decide +kernel
theorem dX13_begin_9 : decode cX13_begin 9 = .ok (.invokestatic 44, 3) := by decide +kernel
theorem dX13_begin_12 : decode cX13_begin 12 = .ok (.ifCond .eq 7, 3) := by decide +kernel
theorem dX13_begin_15 : decode cX13_begin 15 = .ok (.iconst 1, 1) := by decide +kernel
theorem dX13_begin_16 : decode cX13_begin 16 = .ok (.goto 4, 3) := by decide +kernel
theorem dX13_begin_30 : decode cX13_begin 30 = .ok (.aload_n 0, 1) := by decide +kernel
theorem dX13_begin_31 : decode cX13_begin 31 = .ok (.iload_n 1, 1) := by decide +kernel
set_option maxRecDepth 20000 in
theorem ggX13_begin_X13_runsNow : GoodIn wsX13_begin wsX13_runsNow := goodIn_r _ [22, 4, 5, 23, 24, 25, 9, 26, 27, 28, 29, 30, 31, 32, 33, 34, 35, 36, 37, 38, 39, 40, 41, 42, 43, 44, 45, 46, 47, 48, 49, 50, 51, 52, 53, 54, 55, 56, 57, 58, 59, 60, 61, 62, 63, 64, 65, 66, 67, 68, 69, 70, 71, 72, 73, 74, 75, 76, 77, 78, 79, 80, 81, 82, 83, 84, 85, 86, 87, 88, 89, 90, 91, 92, 93, 94, 95, 96, 97, 98, 99, 100, 101, 102, 103, 104, 105, 106, 107, 108, 109, 110, 111, 112, 113, 114, 115, 116, 117, 118, 119, 120, 121, 122, 123, 124, 125, 126, 127, 128, 129, 130, 131, 132, 133, 134, 135, 136, 137, 138, 139, 140, 141, 142, 143, 144, 145, 146, 147, 148, 149, 150, 151, 152, 153, 154, 155, 156, 157, 158, 159, 160, 161, 162, 163, 164, 165, 166, 167, 168, 169, 170, 171, 172, 173, 174, 175, 176, 177, 178, 179, 234, 235, 236, 237, 238, 239, 240, 241, 242, 243, 244, 245, 246, 247, 248, 249, 250, 251] (by decide +kernel) (by decide +kernel)
set_option maxRecDepth 20000 in
theorem gX13_begin_X13_runsNow : GoodIn wsX13_begin (wsV RX13 142 RX13 yX13_runsNow wsX13_runsNow) := goodIn_app (goodIn_of _ (by decide +kernel)) ggX13_begin_X13_runsNow
theorem dX13_begin_32 : decode cX13_begin 32 = .ok (.invokevirtual 142, 3) := by decide +kernel
set_option maxRecDepth 20000 in
theorem ggX13_begin_Jx4a65c_size_8abf5 : GoodIn wsX13_begin wsJx4a65c_size_8abf5 := goodIn_r _ [134, 79, 248, 249, 250] (by decide +kernel) (by decide +kernel)
set_option maxRecDepth 20000 in
theorem gX13_begin_Jx4a65c_size_8abf5_f79Jx4a65c : GoodIn wsX13_begin (va_wsF RX13 79 RJx4a65c ⟨"java/util/List", "size", "()I"⟩ yJx4a65c_size_8abf5 wsJx4a65c_size_8abf5) := goodIn_app (goodIn_of _ (by decide +kernel)) ggX13_begin_Jx4a65c_size_8abf5
theorem dX13_begin_35 : decode cX13_begin 35 = .ok (.invokeinterface 79 1, 5) := by decide +kernel
theorem dX13_begin_40 : decode cX13_begin 40 = .ok (.istore_n 3, 1) := by decide +kernel
theorem dX13_begin_41 : decode cX13_begin 41 = .ok (.aload_n 0, 1) := by decide +kernel
theorem dX13_begin_42 : decode cX13_begin 42 = .ok (.new 147, 3) := by decide +kernel
theorem dX13_begin_45 : decode cX13_begin 45 = .ok (.dup, 1) := by decide +kernel
theorem dX13_begin_46 : decode cX13_begin 46 = .ok (.aload_n 0, 1) := by decide +kernel
theorem dX13_begin_47 : decode cX13_begin 47 = .ok (.aload_n 0, 1) := by decide +kernel
theorem dX13_begin_48 : decode cX13_begin 48 = .ok (.getfield 29, 3) := by decide +kernel
theorem dX13_begin_51 : decode cX13_begin 51 = .ok (.iload_n 1, 1) := by decide +kernel
theorem dX13_begin_52 : decode cX13_begin 52 = .ok (.aaload, 1) := by decide +kernel
theorem dX13_begin_53 : decode cX13_begin 53 = .ok (.iload_n 2, 1) := by decide +kernel
theorem dX13_begin_54 : decode cX13_begin 54 = .ok (.aload_n 0, 1) := by decide +kernel
theorem dX13_begin_55 : decode cX13_begin 55 = .ok (.getfield 35, 3) := by decide +kernel
theorem ggX13_begin_X12_init_h : GoodIn wsX13_begin [.code yX12_init cX12_init 6 none] := goodIn_r _ [182] (by decide +kernel) (by decide +kernel)
theorem ggX13_begin_X12_init_0 : GoodIn wsX13_begin wsX12_init_r1 := goodIn_r _ [183, 184, 54, 55, 172, 185, 186, 28, 29, 187, 188, 189, 190, 191, 40, 41, 42, 43, 44, 45, 46, 47, 48, 49] (by decide +kernel) (by decide +kernel)
theorem ggX13_begin_X12_init_1 : GoodIn wsX13_begin wsX12_init_r2 := goodIn_r _ [50, 51, 52, 53, 24, 9, 25, 26, 27, 30, 31, 32, 33, 34, 35, 36, 37, 38, 39, 56, 57, 58, 59, 60] (by decide +kernel) (by decide +kernel)
theorem ggX13_begin_X12_init_2 : GoodIn wsX13_begin wsX12_init_r3 := goodIn_r _ [61, 62, 63, 64, 65, 66, 67, 68, 69, 70, 71, 72, 73, 74, 75, 76, 77, 78, 79, 80, 81, 82, 83, 84] (by decide +kernel) (by decide +kernel)
theorem ggX13_begin_X12_init_3 : GoodIn wsX13_begin wsX12_init_r4 := goodIn_r _ [85, 86, 87, 88, 89, 90, 91, 92, 93, 94, 95, 96, 97, 98, 99, 100, 101, 102, 103, 104, 105, 106, 107, 108] (by decide +kernel) (by decide +kernel)
theorem ggX13_begin_X12_init_4 : GoodIn wsX13_begin wsX12_init_r5 := goodIn_r _ [109, 110, 111, 112, 113, 114, 115, 116, 117, 118, 119, 120, 121, 122, 123, 124, 125, 126, 127, 128, 129, 130, 131, 132] (by decide +kernel) (by decide +kernel)
theorem ggX13_begin_X12_init_5 : GoodIn wsX13_begin wsX12_init_r6 := goodIn_r _ [133, 134, 135, 136, 137, 138, 139, 140, 141, 142, 143, 144, 145, 146, 147, 148, 149, 150, 151, 152, 153, 154, 155, 156] (by decide +kernel) (by decide +kernel)
theorem ggX13_begin_X12_init_6 : GoodIn wsX13_begin wsX12_init_r7 := goodIn_r _ [157, 158, 159, 160, 161, 162, 163, 164, 165, 166, 167, 168, 169, 170, 171, 173, 174, 175, 176, 177, 178, 179, 192, 193] (by decide +kernel) (by decide +kernel)
theorem ggX13_begin_X12_init_7 : GoodIn wsX13_begin wsX12_init_r8 := goodIn_r _ [194, 3, 195, 196, 197, 198, 199, 200, 201, 202, 203, 204] (by decide +kernel) (by decide +kernel)
theorem ggX13_begin_X12_init_8 : GoodIn wsX13_begin wsX120 := goodIn_r _ [222, 223, 224, 225, 226, 227, 228, 229, 230, 231, 232, 233] (by decide +kernel) (by decide +kernel)
theorem ggX13_begin_X12_init_9 : GoodIn wsX13_begin wsJx4a65c0 := goodIn_r _ [248, 249, 250] (by decide +kernel) (by decide +kernel)
theorem ggX13_begin_X12_init_10 : GoodIn wsX13_begin wsJ60 := goodIn_r _ [251] (by decide +kernel) (by decide +kernel)
theorem ggX13_begin_X12_init_11 : GoodIn wsX13_begin wsX130 := goodIn_r _ [234, 235, 236, 237, 238, 239, 240, 241, 242, 243, 244, 245, 246, 247] (by decide +kernel) (by decide +kernel)
set_option maxRecDepth 20000 in
theorem ggX13_begin_X12_init : GoodIn wsX13_begin wsX12_init := (fun w h => (List.mem_cons.mp h).elim (fun e => ggX13_begin_X12_init_h w (List.mem_singleton.mpr e)) (fun h => (goodIn_app (goodIn_app (goodIn_app (goodIn_app (goodIn_app ggX13_begin_X12_init_0 (goodIn_app ggX13_begin_X12_init_1 (goodIn_app ggX13_begin_X12_init_2 (goodIn_app ggX13_begin_X12_init_3 (goodIn_app ggX13_begin_X12_init_4 (goodIn_app ggX13_begin_X12_init_5 (goodIn_app ggX13_begin_X12_init_6 ggX13_begin_X12_init_7))))))) ggX13_begin_X12_init_8) ggX13_begin_X12_init_9) ggX13_begin_X12_init_10) ggX13_begin_X12_init_11) w h))
set_option maxRecDepth 20000 in
theorem gX13_begin_X12_init : GoodIn wsX13_begin (wsX12_init) := ggX13_begin_X12_init
theorem dX13_begin_58 : decode cX13_begin 58 = .ok (.invokespecial 149, 3) := by decide +kernel
theorem dX13_begin_61 : decode cX13_begin 61 = .ok (.putfield 166, 3) := by decide +kernel
theorem dX13_begin_64 : decode cX13_begin 64 = .ok (.aload_n 0, 1) := by decide +kernel
set_option maxRecDepth 20000 in
theorem ggX13_begin_X13_ends : GoodIn wsX13_begin wsX13_ends := goodIn_r _ [208, 6, 4, 209, 210, 211, 3, 212, 213, 214, 215, 216, 187, 217, 201, 132, 133, 29, 134, 79, 203, 136, 137, 138, 139, 140, 141, 142, 143, 144, 145, 146, 147, 148, 149, 150, 43, 218, 219, 220, 221, 197, 172, 202, 124, 125, 126, 234, 235, 236, 237, 238, 239, 240, 241, 242, 243, 244, 245, 246, 247, 222, 223, 224, 225, 226, 227, 228, 229, 230, 231, 232, 233, 248, 249, 250] (by decide +kernel) (by decide +kernel)
set_option maxRecDepth 20000 in
theorem gX13_begin_X13_ends : GoodIn wsX13_begin (wsV RX13 180 RX13 yX13_ends wsX13_ends) := goodIn_app (goodIn_of _ (by decide +kernel)) ggX13_begin_X13_ends
theorem dX13_begin_65 : decode cX13_begin 65 = .ok (.invokevirtual 180, 3) := by decide +kernel
theorem dX13_begin_68 : decode cX13_begin 68 = .ok (.iload_n 3, 1) := by decide +kernel
theorem dX13_begin_69 : decode cX13_begin 69 = .ok (.ireturn, 1) := by decide +kernel
set_option maxHeartbeats 4000000 in
set_option maxRecDepth 100000 in
theorem c_X12_result_0 (l : Launch) (dC : Nat → ClassId) (dI : Nat → Nat → Nat) (g : Nat → ClassId) (t : Nat) (byy : Nat) (rows : Nat) (made : Nat) (mo : Nat) (tb : Nat) (l1 : Nat) (to : Int32) (sz : Nat) : Met l yX12_result wsX12_result ({ frames := 3, cells := 1, slots := 0, locals := 64 }) (va_Pc [.ref t] (PG (dC, dI) g [(t, .inr (14, [.ref byy, .int to, .int 0, .ref rows, .ref made, .int 0, .int 0, .int 0, .int 0, .int 0, .int 0, .ref mo])), (rows, .inr (1, [.int 1, .ref tb, .int 1])), (tb, .inl (g 5, 10, .inr (.inr (.inr (.inr (va_up (fun _ => none) 0 (some l1))))))), (l1, .inr (1, [.int 0, .ref (g 10), .int 0]))] sz)) (va_Qq (fun (r : Option Nat) (u : Nat → Nat) => r = some (u 0)) (fun (u : Nat → Nat) t9 => va_P (dC, dI) vwCl [(t, .inr (14, [.ref byy, .int to, .int 0, .ref rows, .ref made, .int 0, .int 0, .int 0, .int 0, .int 0, .int 0, .ref mo])), (rows, .inr (1, [.int 1, .ref tb, .int 1])), (tb, .inl (g 5, 10, .inr (.inr (.inr (.inr (va_up (fun _ => none) 0 (some l1))))))), (l1, .inr (1, [.int 0, .ref (g 10), .int 0])), ((u 0), .inl (g 0, 0, .inl (fun _ => 0)))] t9.heap ∧ va_D (va_A [(t, .inr (14, [.ref byy, .int to, .int 0, .ref rows, .ref made, .int 0, .int 0, .int 0, .int 0, .int 0, .int 0, .ref mo])), (rows, .inr (1, [.int 1, .ref tb, .int 1])), (tb, .inl (g 5, 10, .inr (.inr (.inr (.inr (va_up (fun _ => none) 0 (some l1))))))), (l1, .inr (1, [.int 0, .ref (g 10), .int 0]))] sz) [(t, .inr (14, [.ref byy, .int to, .int 0, .ref rows, .ref made, .int 0, .int 0, .int 0, .int 0, .int 0, .int 0, .ref mo])), (rows, .inr (1, [.int 1, .ref tb, .int 1])), (tb, .inl (g 5, 10, .inr (.inr (.inr (.inr (va_up (fun _ => none) 0 (some l1))))))), (l1, .inr (1, [.int 0, .ref (g 10), .int 0])), ((u 0), .inl (g 0, 0, .inl (fun _ => 0)))]) (va_A [(t, .inr (14, [.ref byy, .int to, .int 0, .ref rows, .ref made, .int 0, .int 0, .int 0, .int 0, .int 0, .int 0, .ref mo])), (rows, .inr (1, [.int 1, .ref tb, .int 1])), (tb, .inl (g 5, 10, .inr (.inr (.inr (.inr (va_up (fun _ => none) 0 (some l1))))))), (l1, .inr (1, [.int 0, .ref (g 10), .int 0]))] sz)) 1 0 (va_A [(t, .inr (14, [.ref byy, .int to, .int 0, .ref rows, .ref made, .int 0, .int 0, .int 0, .int 0, .int 0, .int 0, .ref mo])), (rows, .inr (1, [.int 1, .ref tb, .int 1])), (tb, .inl (g 5, 10, .inr (.inr (.inr (.inr (va_up (fun _ => none) 0 (some l1))))))), (l1, .inr (1, [.int 0, .ref (g 10), .int 0]))] sz) := by
  refine Met.ofW (cc := cX12_result) (maxL := 2) (ret := (some (.array .int))) (by decide) rfl ?_
  intro p e s m args below meth c s₁ B hml hv
  obtain ⟨rfl, hsz, hP, hK, hD0, hG⟩ := hv
  have hx := B.exec
  have hb := B.bytes
  have hr := B.returns
  have hts := atoms_spec (ws := wsX12_result) B.pre
  have hown : s.vm.findClass RX12 = some m.cls := findClass_of_methodNamed B.named
  have hlocks := B.notSynchronized
  subst hsz
  have hD := hD0.self (sz := s.heap.size)
  generalize hAe : va_A [(t, .inr (14, [.ref byy, .int to, .int 0, .ref rows, .ref made, .int 0, .int 0, .int 0, .int 0, .int 0, .int 0, .ref mo])), (rows, .inr (1, [.int 1, .ref tb, .int 1])), (tb, .inl (g 5, 10, .inr (.inr (.inr (.inr (va_up (fun _ => none) 0 (some l1))))))), (l1, .inr (1, [.int 0, .ref (g 10), .int 0]))] s.heap.size = A at hD hG ⊢
  have hA : ∀ q : Nat, s.heap.size ≤ q → A q := fun q h => by rw [← hAe]; exact Or.inr h
  have hS : va_S A s.heap s.heap [] := va_S.rf
  have hl := lv_entry ([.ref t]) (n := 2) (Nat.le_of_ble_eq_true rfl)
  rw [lg_entry_eq]
  generalize (lg_sl ([.ref t]) ++ List.replicate (2 - (lg_sl ([.ref t])).length) Slot.unset).toArray = ls at hl ⊢
  have hl : lv_has ls 2 [(0, .ref t)] := hl
  have hf22 := hts (Cond.fieldLink RX12 22 "RunmergeOfficeModel$Job" "rows" "Ljava/util/List;") (by decide +kernel)
  have hiX12 : ∀ w ∈ u_ws RX12 TX12 12, w ∈ wsX12_result := by decide +kernel
  have hcl45 := hts (Cond.classLink RX12 45 "java/util/List") (by decide +kernel)
  have hnaint := hts (Cond.arrayClass (newarray.typeOf .int)) (by decide +kernel)
  refine lv_iconst (v := 0) hx hb dX12_result_0 (by decide) ?_
  refine lv_istore_n (lv' := [(1, .int 0), (0, .ref t)]) hx hb dX12_result_1 rfl hl (by decide) rfl (fun ls hl => ?_)
  refine lv_iload_n hx hb dX12_result_2 rfl (lv_at hl 0 rfl) ?_
  refine lv_aload_n hx hb dX12_result_3 rfl (lv_at hl 1 rfl) ?_
  refine va_get (D := (dC, dI)) (ci := 14) (v := .ref rows) (C := RX12) (T := TX12) (N := 12) hx hb hts hiX12 hown hK hP 0 rfl rfl 3 (by decide) hf22 (fun _ h9 => h9) rfl dX12_result_4 ?_
  refine va_callFi (va_runF (As := []) (rest := [.int 0]) (hK.1 1 _ rfl).2 ⟨hx, hb, hml, hown, hts⟩ (c_Jx4a65c_size_8abf5 l dC dI g [(t, .inr (14, [.ref byy, .int to, .int 0, .ref rows, .ref made, .int 0, .int 0, .int 0, .int 0, .int 0, .int 0, .ref mo])), (rows, .inr (1, [.int 1, .ref tb, .int 1])), (tb, .inl (g 5, 10, .inr (.inr (.inr (.inr (va_up (fun _ => none) 0 (some l1))))))), (l1, .inr (1, [.int 0, .ref (g 10), .int 0]))] rows 1 1 (some tb) 1 rfl  s.heap.size) (va_cwF 0 hts gX12_result_Jx4a65c_size_8abf5_f54Jx4a65c rfl rfl rfl (fw_1 hG) (by decide +kernel) ⟨Nat.le_of_ble_eq_true rfl, Nat.le_of_ble_eq_true rfl⟩) ⟨PG_blind, va_recv hK hP (ci := 1) (q0 := 1) rfl rfl, PG_call hK hG hS hP hD (A_all hD hA hS.1)⟩ rfl rfl hl.1 rfl (lv_room (Nat.le_of_ble_eq_true rfl)) dX12_result_7 ⟨Nat.le_of_ble_eq_true rfl, Nat.le_of_ble_eq_true rfl⟩) hS (fun q _ h => (A_all hD hA hS.1) q h) (A_all hD hA hS.1) (fun r_1 u_1 t_1 H_1 L_1 ht_1 hvm_1 hw_1 hB_1 hz_1 hk_1 hS => ?_)
  replace hB_1 := (show va_P (dC, dI) vwCl [(t, .inr (14, [.ref byy, .int to, .int 0, .ref rows, .ref made, .int 0, .int 0, .int 0, .int 0, .int 0, .int 0, .ref mo])), (rows, .inr (1, [.int 1, .ref tb, .int 1])), (tb, .inl (g 5, 10, .inr (.inr (.inr (.inr (va_up (fun _ => none) 0 (some l1))))))), (l1, .inr (1, [.int 0, .ref (g 10), .int 0]))] t_1.heap from hB_1)
  rw [ht_1] at hB_1
  have hP := hB_1
  obtain rfl : r_1 = 1 := hw_1
  refine lv_icmp_ge (tgt := 65) hx hb dX12_result_12 (by decide) (fun c_2 => absurd c_2 (by decide)) (fun c_2 => ?_)
  refine lv_aload_n hx hb dX12_result_15 rfl (lv_at hl 1 rfl) ?_
  refine va_get (D := (dC, dI)) (ci := 14) (v := .ref rows) (C := RX12) (T := TX12) (N := 12) hx hb hts hiX12 hown hK hP 0 rfl rfl 3 (by decide) hf22 (fun _ h9 => h9) rfl dX12_result_16 ?_
  refine lv_iload_n hx hb dX12_result_19 rfl (lv_at hl 0 rfl) ?_
  refine va_callFq (va_runF (As := [.int 0]) (rest := []) (hK.1 1 _ rfl).2 ⟨hx, hb, hml, hown, hts⟩ (c_Jx4a65c_get_915e3_01 l dC dI g [(t, .inr (14, [.ref byy, .int to, .int 0, .ref rows, .ref made, .int 0, .int 0, .int 0, .int 0, .int 0, .int 0, .ref mo])), (rows, .inr (1, [.int 1, .ref tb, .int 1])), (tb, .inl (g 5, 10, .inr (.inr (.inr (.inr (va_up (fun _ => none) 0 (some l1))))))), (l1, .inr (1, [.int 0, .ref (g 10), .int 0]))] rows tb l1 1 (va_up (fun _ => none) 0 (some l1)) 1 rfl 2 rfl rfl H_1.size) (va_cwF 1 hts gX12_result_Jx4a65c_get_915e3_f65Jx4a65c rfl rfl rfl (fw_3 hG) (by decide +kernel) ⟨Nat.le_of_ble_eq_true rfl, Nat.le_of_ble_eq_true rfl⟩) ⟨PG_blind, va_recv hK hP (ci := 1) (q0 := 1) rfl rfl, PG_call hK hG hS hP hD (A_all hD hA hS.1)⟩ rfl rfl hl.1 rfl (lv_room (Nat.le_of_ble_eq_true rfl)) dX12_result_20 ⟨Nat.le_of_ble_eq_true rfl, Nat.le_of_ble_eq_true rfl⟩) hS (fun q _ h => (A_all hD hA hS.1) q h) (A_all hD hA hS.1) (fun r_3 u_3 t_3 H_3 L_3 ht_3 hvm_3 hw_3 hB_3 hz_3 hk_3 hS => ?_)
  replace hB_3 := (show va_P (dC, dI) vwCl [(t, .inr (14, [.ref byy, .int to, .int 0, .ref rows, .ref made, .int 0, .int 0, .int 0, .int 0, .int 0, .int 0, .ref mo])), (rows, .inr (1, [.int 1, .ref tb, .int 1])), (tb, .inl (g 5, 10, .inr (.inr (.inr (.inr (va_up (fun _ => none) 0 (some l1))))))), (l1, .inr (1, [.int 0, .ref (g 10), .int 0]))] t_3.heap from hB_3)
  rw [ht_3] at hB_3
  have hP := hB_3
  obtain rfl : r_3 = some l1 := hw_3
  refine W.eq (g2 := F0 m 25 ls [.ref l1]) rfl ?_
  refine va_castY hx hb hown hcl45 (cc_0 hG) (va_recv hK hP (ci := 1) (q0 := 3) rfl rfl) dX12_result_25 ?_
  refine va_callFi (va_runF (As := []) (rest := []) (hK.1 1 _ rfl).2 ⟨hx, hb, hml, hown, hts⟩ (c_Jx4a65c_isEmpty_aae02_0 l dC dI g [(t, .inr (14, [.ref byy, .int to, .int 0, .ref rows, .ref made, .int 0, .int 0, .int 0, .int 0, .int 0, .int 0, .ref mo])), (rows, .inr (1, [.int 1, .ref tb, .int 1])), (tb, .inl (g 5, 10, .inr (.inr (.inr (.inr (va_up (fun _ => none) 0 (some l1))))))), (l1, .inr (1, [.int 0, .ref (g 10), .int 0]))] l1 0 (some (g 10)) 3 rfl  H_3.size) (va_cwF 0 hts gX12_result_Jx4a65c_isEmpty_aae02_f61Jx4a65c rfl rfl rfl (fw_0 hG) (by decide +kernel) ⟨Nat.le_of_ble_eq_true rfl, Nat.le_of_ble_eq_true rfl⟩) ⟨PG_blind, va_recv hK hP (ci := 1) (q0 := 3) rfl rfl, PG_call hK hG hS hP hD (A_all hD hA hS.1)⟩ rfl rfl hl.1 rfl (lv_room (Nat.le_of_ble_eq_true rfl)) dX12_result_28 ⟨Nat.le_of_ble_eq_true rfl, Nat.le_of_ble_eq_true rfl⟩) hS (fun q _ h => (A_all hD hA hS.1) q h) (A_all hD hA hS.1) (fun r_4 u_4 t_4 H_4 L_4 ht_4 hvm_4 hw_4 hB_4 hz_4 hk_4 hS => ?_)
  replace hB_4 := (show va_P (dC, dI) vwCl [(t, .inr (14, [.ref byy, .int to, .int 0, .ref rows, .ref made, .int 0, .int 0, .int 0, .int 0, .int 0, .int 0, .ref mo])), (rows, .inr (1, [.int 1, .ref tb, .int 1])), (tb, .inl (g 5, 10, .inr (.inr (.inr (.inr (va_up (fun _ => none) 0 (some l1))))))), (l1, .inr (1, [.int 0, .ref (g 10), .int 0]))] t_4.heap from hB_4)
  rw [ht_4] at hB_4
  have hP := hB_4
  obtain rfl : r_4 = 1 := hw_4
  refine lv_if_ne (tgt := 59) hx hb dX12_result_33 (by decide) (fun c_5 => ?_) (fun c_5 => absurd c_5 (by decide))
  refine lv_iinc (v := 1) (lv' := [(1, .int 1), (0, .ref t)]) hx hb dX12_result_59 hl (k := 0) rfl (by decide) (by decide) rfl (fun ls hl => ?_)
  refine lv_goto (tgt := 2) hx hb dX12_result_62 (by decide) ?_
  refine lv_iload_n hx hb dX12_result_2 rfl (lv_at hl 0 rfl) ?_
  refine lv_aload_n hx hb dX12_result_3 rfl (lv_at hl 1 rfl) ?_
  refine va_get (D := (dC, dI)) (ci := 14) (v := .ref rows) (C := RX12) (T := TX12) (N := 12) hx hb hts hiX12 hown hK hP 0 rfl rfl 3 (by decide) hf22 (fun _ h9 => h9) rfl dX12_result_4 ?_
  refine va_callFi (va_runF (As := []) (rest := [.int 1]) (hK.1 1 _ rfl).2 ⟨hx, hb, hml, hown, hts⟩ (c_Jx4a65c_size_8abf5 l dC dI g [(t, .inr (14, [.ref byy, .int to, .int 0, .ref rows, .ref made, .int 0, .int 0, .int 0, .int 0, .int 0, .int 0, .ref mo])), (rows, .inr (1, [.int 1, .ref tb, .int 1])), (tb, .inl (g 5, 10, .inr (.inr (.inr (.inr (va_up (fun _ => none) 0 (some l1))))))), (l1, .inr (1, [.int 0, .ref (g 10), .int 0]))] rows 1 1 (some tb) 1 rfl  H_4.size) (va_cwF 0 hts gX12_result_Jx4a65c_size_8abf5_f54Jx4a65c rfl rfl rfl (fw_1 hG) (by decide +kernel) ⟨Nat.le_of_ble_eq_true rfl, Nat.le_of_ble_eq_true rfl⟩) ⟨PG_blind, va_recv hK hP (ci := 1) (q0 := 1) rfl rfl, PG_call hK hG hS hP hD (A_all hD hA hS.1)⟩ rfl rfl hl.1 rfl (lv_room (Nat.le_of_ble_eq_true rfl)) dX12_result_7 ⟨Nat.le_of_ble_eq_true rfl, Nat.le_of_ble_eq_true rfl⟩) hS (fun q _ h => (A_all hD hA hS.1) q h) (A_all hD hA hS.1) (fun r_6 u_6 t_6 H_6 L_6 ht_6 hvm_6 hw_6 hB_6 hz_6 hk_6 hS => ?_)
  replace hB_6 := (show va_P (dC, dI) vwCl [(t, .inr (14, [.ref byy, .int to, .int 0, .ref rows, .ref made, .int 0, .int 0, .int 0, .int 0, .int 0, .int 0, .ref mo])), (rows, .inr (1, [.int 1, .ref tb, .int 1])), (tb, .inl (g 5, 10, .inr (.inr (.inr (.inr (va_up (fun _ => none) 0 (some l1))))))), (l1, .inr (1, [.int 0, .ref (g 10), .int 0]))] t_6.heap from hB_6)
  rw [ht_6] at hB_6
  have hP := hB_6
  obtain rfl : r_6 = 1 := hw_6
  refine lv_icmp_ge (tgt := 65) hx hb dX12_result_12 (by decide) (fun c_7 => ?_) (fun c_7 => absurd (by decide) c_7)
  refine lv_iconst (v := 0) hx hb dX12_result_65 (by decide) ?_
  refine va_newa (atype := .int) (a0 := (0, .inl (fun _ => 0))) hx hb hnaint rfl hK hP hD hS hA (fun _ => rfl) (by decide) (N' := 0) (by decide) (Nat.le_of_ble_eq_true rfl) (Nat.le_of_ble_eq_true rfl) (Nat.le_of_ble_eq_true rfl) dX12_result_66 (fun q_8 cA_10 H_9 hK9 hP hD hS => ?_)
  obtain rfl : g 0 = cA_10 := K_one hK9 0 6 rfl rfl
  have hP : va_P (dC, dI) vwCl [(t, .inr (14, [.ref byy, .int to, .int 0, .ref rows, .ref made, .int 0, .int 0, .int 0, .int 0, .int 0, .int 0, .ref mo])), (rows, .inr (1, [.int 1, .ref tb, .int 1])), (tb, .inl (g 5, 10, .inr (.inr (.inr (.inr (va_up (fun _ => none) 0 (some l1))))))), (l1, .inr (1, [.int 0, .ref (g 10), .int 0])), (q_8, .inl (g 0, 0, .inl (fun _ => 0)))] H_9 := hP
  have hD : va_D A [(t, .inr (14, [.ref byy, .int to, .int 0, .ref rows, .ref made, .int 0, .int 0, .int 0, .int 0, .int 0, .int 0, .ref mo])), (rows, .inr (1, [.int 1, .ref tb, .int 1])), (tb, .inl (g 5, 10, .inr (.inr (.inr (.inr (va_up (fun _ => none) 0 (some l1))))))), (l1, .inr (1, [.int 0, .ref (g 10), .int 0])), (q_8, .inl (g 0, 0, .inl (fun _ => 0)))] := hD
  refine W.widen (k := 1) (n := 0) (by omega) (by omega) ?_
  have hP9 := hP.sub (ws' := [(t, .inr (14, [.ref byy, .int to, .int 0, .ref rows, .ref made, .int 0, .int 0, .int 0, .int 0, .int 0, .int 0, .ref mo])), (rows, .inr (1, [.int 1, .ref tb, .int 1])), (tb, .inl (g 5, 10, .inr (.inr (.inr (.inr (va_up (fun _ => none) 0 (some l1))))))), (l1, .inr (1, [.int 0, .ref (g 10), .int 0])), (q_8, .inl (g 0, 0, .inl (fun _ => 0)))]) [0, 1, 2, 3, 4] rfl
  have hD9 := hD.sub (ws' := [(t, .inr (14, [.ref byy, .int to, .int 0, .ref rows, .ref made, .int 0, .int 0, .int 0, .int 0, .int 0, .int 0, .ref mo])), (rows, .inr (1, [.int 1, .ref tb, .int 1])), (tb, .inl (g 5, 10, .inr (.inr (.inr (.inr (va_up (fun _ => none) 0 (some l1))))))), (l1, .inr (1, [.int 0, .ref (g 10), .int 0])), (q_8, .inl (g 0, 0, .inl (fun _ => 0)))]) [0, 1, 2, 3, 4] (by decide) rfl
  exact W.aret (v := .ref q_8) hx hb hr (Or.inr ⟨_, rfl⟩) (Or.inr ⟨_, rfl⟩) (fun t ht hW => ⟨⟨some q_8, (fun j => ([q_8] : List Nat).getD j 0), rfl, rfl, ⟨P_at ht hP9, hD9⟩⟩, hS.F ht⟩) hS.2.2 dX12_result_68
set_option maxHeartbeats 4000000 in
set_option maxRecDepth 100000 in
theorem c_X12_result_2 (l : Launch) (dC : Nat → ClassId) (dI : Nat → Nat → Nat) (g : Nat → ClassId) (t : Nat) (byy : Nat) (rows : Nat) (made : Nat) (mo : Nat) (tb : Nat) (l1 : Nat) (l2 : Nat) (to : Int32) (sz : Nat) : Met l yX12_result wsX12_result ({ frames := 3, cells := 1, slots := 0, locals := 64 }) (va_Pc [.ref t] (PG (dC, dI) g [(t, .inr (14, [.ref byy, .int to, .int 0, .ref rows, .ref made, .int 0, .int 0, .int 0, .int 0, .int 0, .int 0, .ref mo])), (rows, .inr (1, [.int 2, .ref tb, .int 2])), (tb, .inl (g 5, 10, .inr (.inr (.inr (.inr (va_up (va_up (fun _ => none) 0 (some l1)) 1 (some l2))))))), (l1, .inr (1, [.int 0, .ref (g 10), .int 0])), (l2, .inr (1, [.int 0, .ref (g 10), .int 0]))] sz)) (va_Qq (fun (r : Option Nat) (u : Nat → Nat) => r = some (u 0)) (fun (u : Nat → Nat) t9 => va_P (dC, dI) vwCl [(t, .inr (14, [.ref byy, .int to, .int 0, .ref rows, .ref made, .int 0, .int 0, .int 0, .int 0, .int 0, .int 0, .ref mo])), (rows, .inr (1, [.int 2, .ref tb, .int 2])), (tb, .inl (g 5, 10, .inr (.inr (.inr (.inr (va_up (va_up (fun _ => none) 0 (some l1)) 1 (some l2))))))), (l1, .inr (1, [.int 0, .ref (g 10), .int 0])), (l2, .inr (1, [.int 0, .ref (g 10), .int 0])), ((u 0), .inl (g 0, 0, .inl (fun _ => 0)))] t9.heap ∧ va_D (va_A [(t, .inr (14, [.ref byy, .int to, .int 0, .ref rows, .ref made, .int 0, .int 0, .int 0, .int 0, .int 0, .int 0, .ref mo])), (rows, .inr (1, [.int 2, .ref tb, .int 2])), (tb, .inl (g 5, 10, .inr (.inr (.inr (.inr (va_up (va_up (fun _ => none) 0 (some l1)) 1 (some l2))))))), (l1, .inr (1, [.int 0, .ref (g 10), .int 0])), (l2, .inr (1, [.int 0, .ref (g 10), .int 0]))] sz) [(t, .inr (14, [.ref byy, .int to, .int 0, .ref rows, .ref made, .int 0, .int 0, .int 0, .int 0, .int 0, .int 0, .ref mo])), (rows, .inr (1, [.int 2, .ref tb, .int 2])), (tb, .inl (g 5, 10, .inr (.inr (.inr (.inr (va_up (va_up (fun _ => none) 0 (some l1)) 1 (some l2))))))), (l1, .inr (1, [.int 0, .ref (g 10), .int 0])), (l2, .inr (1, [.int 0, .ref (g 10), .int 0])), ((u 0), .inl (g 0, 0, .inl (fun _ => 0)))]) (va_A [(t, .inr (14, [.ref byy, .int to, .int 0, .ref rows, .ref made, .int 0, .int 0, .int 0, .int 0, .int 0, .int 0, .ref mo])), (rows, .inr (1, [.int 2, .ref tb, .int 2])), (tb, .inl (g 5, 10, .inr (.inr (.inr (.inr (va_up (va_up (fun _ => none) 0 (some l1)) 1 (some l2))))))), (l1, .inr (1, [.int 0, .ref (g 10), .int 0])), (l2, .inr (1, [.int 0, .ref (g 10), .int 0]))] sz)) 1 0 (va_A [(t, .inr (14, [.ref byy, .int to, .int 0, .ref rows, .ref made, .int 0, .int 0, .int 0, .int 0, .int 0, .int 0, .ref mo])), (rows, .inr (1, [.int 2, .ref tb, .int 2])), (tb, .inl (g 5, 10, .inr (.inr (.inr (.inr (va_up (va_up (fun _ => none) 0 (some l1)) 1 (some l2))))))), (l1, .inr (1, [.int 0, .ref (g 10), .int 0])), (l2, .inr (1, [.int 0, .ref (g 10), .int 0]))] sz) := by
  refine Met.ofW (cc := cX12_result) (maxL := 2) (ret := (some (.array .int))) (by decide) rfl ?_
  intro p e s m args below meth c s₁ B hml hv
  obtain ⟨rfl, hsz, hP, hK, hD0, hG⟩ := hv
  have hx := B.exec
  have hb := B.bytes
  have hr := B.returns
  have hts := atoms_spec (ws := wsX12_result) B.pre
  have hown : s.vm.findClass RX12 = some m.cls := findClass_of_methodNamed B.named
  have hlocks := B.notSynchronized
  subst hsz
  have hD := hD0.self (sz := s.heap.size)
  generalize hAe : va_A [(t, .inr (14, [.ref byy, .int to, .int 0, .ref rows, .ref made, .int 0, .int 0, .int 0, .int 0, .int 0, .int 0, .ref mo])), (rows, .inr (1, [.int 2, .ref tb, .int 2])), (tb, .inl (g 5, 10, .inr (.inr (.inr (.inr (va_up (va_up (fun _ => none) 0 (some l1)) 1 (some l2))))))), (l1, .inr (1, [.int 0, .ref (g 10), .int 0])), (l2, .inr (1, [.int 0, .ref (g 10), .int 0]))] s.heap.size = A at hD hG ⊢
  have hA : ∀ q : Nat, s.heap.size ≤ q → A q := fun q h => by rw [← hAe]; exact Or.inr h
  have hS : va_S A s.heap s.heap [] := va_S.rf
  have hl := lv_entry ([.ref t]) (n := 2) (Nat.le_of_ble_eq_true rfl)
  rw [lg_entry_eq]
  generalize (lg_sl ([.ref t]) ++ List.replicate (2 - (lg_sl ([.ref t])).length) Slot.unset).toArray = ls at hl ⊢
  have hl : lv_has ls 2 [(0, .ref t)] := hl
  have hf22 := hts (Cond.fieldLink RX12 22 "RunmergeOfficeModel$Job" "rows" "Ljava/util/List;") (by decide +kernel)
  have hiX12 : ∀ w ∈ u_ws RX12 TX12 12, w ∈ wsX12_result := by decide +kernel
  have hcl45 := hts (Cond.classLink RX12 45 "java/util/List") (by decide +kernel)
  have hnaint := hts (Cond.arrayClass (newarray.typeOf .int)) (by decide +kernel)
  refine lv_iconst (v := 0) hx hb dX12_result_0 (by decide) ?_
  refine lv_istore_n (lv' := [(1, .int 0), (0, .ref t)]) hx hb dX12_result_1 rfl hl (by decide) rfl (fun ls hl => ?_)
  refine lv_iload_n hx hb dX12_result_2 rfl (lv_at hl 0 rfl) ?_
  refine lv_aload_n hx hb dX12_result_3 rfl (lv_at hl 1 rfl) ?_
  refine va_get (D := (dC, dI)) (ci := 14) (v := .ref rows) (C := RX12) (T := TX12) (N := 12) hx hb hts hiX12 hown hK hP 0 rfl rfl 3 (by decide) hf22 (fun _ h9 => h9) rfl dX12_result_4 ?_
  refine va_callFi (va_runF (As := []) (rest := [.int 0]) (hK.1 1 _ rfl).2 ⟨hx, hb, hml, hown, hts⟩ (c_Jx4a65c_size_8abf5 l dC dI g [(t, .inr (14, [.ref byy, .int to, .int 0, .ref rows, .ref made, .int 0, .int 0, .int 0, .int 0, .int 0, .int 0, .ref mo])), (rows, .inr (1, [.int 2, .ref tb, .int 2])), (tb, .inl (g 5, 10, .inr (.inr (.inr (.inr (va_up (va_up (fun _ => none) 0 (some l1)) 1 (some l2))))))), (l1, .inr (1, [.int 0, .ref (g 10), .int 0])), (l2, .inr (1, [.int 0, .ref (g 10), .int 0]))] rows 2 2 (some tb) 1 rfl  s.heap.size) (va_cwF 0 hts gX12_result_Jx4a65c_size_8abf5_f54Jx4a65c rfl rfl rfl (fw_1 hG) (by decide +kernel) ⟨Nat.le_of_ble_eq_true rfl, Nat.le_of_ble_eq_true rfl⟩) ⟨PG_blind, va_recv hK hP (ci := 1) (q0 := 1) rfl rfl, PG_call hK hG hS hP hD (A_all hD hA hS.1)⟩ rfl rfl hl.1 rfl (lv_room (Nat.le_of_ble_eq_true rfl)) dX12_result_7 ⟨Nat.le_of_ble_eq_true rfl, Nat.le_of_ble_eq_true rfl⟩) hS (fun q _ h => (A_all hD hA hS.1) q h) (A_all hD hA hS.1) (fun r_1 u_1 t_1 H_1 L_1 ht_1 hvm_1 hw_1 hB_1 hz_1 hk_1 hS => ?_)
  replace hB_1 := (show va_P (dC, dI) vwCl [(t, .inr (14, [.ref byy, .int to, .int 0, .ref rows, .ref made, .int 0, .int 0, .int 0, .int 0, .int 0, .int 0, .ref mo])), (rows, .inr (1, [.int 2, .ref tb, .int 2])), (tb, .inl (g 5, 10, .inr (.inr (.inr (.inr (va_up (va_up (fun _ => none) 0 (some l1)) 1 (some l2))))))), (l1, .inr (1, [.int 0, .ref (g 10), .int 0])), (l2, .inr (1, [.int 0, .ref (g 10), .int 0]))] t_1.heap from hB_1)
  rw [ht_1] at hB_1
  have hP := hB_1
  obtain rfl : r_1 = 2 := hw_1
  refine lv_icmp_ge (tgt := 65) hx hb dX12_result_12 (by decide) (fun c_2 => absurd c_2 (by decide)) (fun c_2 => ?_)
  refine lv_aload_n hx hb dX12_result_15 rfl (lv_at hl 1 rfl) ?_
  refine va_get (D := (dC, dI)) (ci := 14) (v := .ref rows) (C := RX12) (T := TX12) (N := 12) hx hb hts hiX12 hown hK hP 0 rfl rfl 3 (by decide) hf22 (fun _ h9 => h9) rfl dX12_result_16 ?_
  refine lv_iload_n hx hb dX12_result_19 rfl (lv_at hl 0 rfl) ?_
  refine va_callFq (va_runF (As := [.int 0]) (rest := []) (hK.1 1 _ rfl).2 ⟨hx, hb, hml, hown, hts⟩ (c_Jx4a65c_get_915e3_02 l dC dI g [(t, .inr (14, [.ref byy, .int to, .int 0, .ref rows, .ref made, .int 0, .int 0, .int 0, .int 0, .int 0, .int 0, .ref mo])), (rows, .inr (1, [.int 2, .ref tb, .int 2])), (tb, .inl (g 5, 10, .inr (.inr (.inr (.inr (va_up (va_up (fun _ => none) 0 (some l1)) 1 (some l2))))))), (l1, .inr (1, [.int 0, .ref (g 10), .int 0])), (l2, .inr (1, [.int 0, .ref (g 10), .int 0]))] rows tb l1 2 (va_up (va_up (fun _ => none) 0 (some l1)) 1 (some l2)) 1 rfl 2 rfl rfl H_1.size) (va_cwF 1 hts gX12_result_Jx4a65c_get_915e3_f65Jx4a65c rfl rfl rfl (fw_3 hG) (by decide +kernel) ⟨Nat.le_of_ble_eq_true rfl, Nat.le_of_ble_eq_true rfl⟩) ⟨PG_blind, va_recv hK hP (ci := 1) (q0 := 1) rfl rfl, PG_call hK hG hS hP hD (A_all hD hA hS.1)⟩ rfl rfl hl.1 rfl (lv_room (Nat.le_of_ble_eq_true rfl)) dX12_result_20 ⟨Nat.le_of_ble_eq_true rfl, Nat.le_of_ble_eq_true rfl⟩) hS (fun q _ h => (A_all hD hA hS.1) q h) (A_all hD hA hS.1) (fun r_3 u_3 t_3 H_3 L_3 ht_3 hvm_3 hw_3 hB_3 hz_3 hk_3 hS => ?_)
  replace hB_3 := (show va_P (dC, dI) vwCl [(t, .inr (14, [.ref byy, .int to, .int 0, .ref rows, .ref made, .int 0, .int 0, .int 0, .int 0, .int 0, .int 0, .ref mo])), (rows, .inr (1, [.int 2, .ref tb, .int 2])), (tb, .inl (g 5, 10, .inr (.inr (.inr (.inr (va_up (va_up (fun _ => none) 0 (some l1)) 1 (some l2))))))), (l1, .inr (1, [.int 0, .ref (g 10), .int 0])), (l2, .inr (1, [.int 0, .ref (g 10), .int 0]))] t_3.heap from hB_3)
  rw [ht_3] at hB_3
  have hP := hB_3
  obtain rfl : r_3 = some l1 := hw_3
  refine W.eq (g2 := F0 m 25 ls [.ref l1]) rfl ?_
  refine va_castY hx hb hown hcl45 (cc_0 hG) (va_recv hK hP (ci := 1) (q0 := 3) rfl rfl) dX12_result_25 ?_
  refine va_callFi (va_runF (As := []) (rest := []) (hK.1 1 _ rfl).2 ⟨hx, hb, hml, hown, hts⟩ (c_Jx4a65c_isEmpty_aae02_0 l dC dI g [(t, .inr (14, [.ref byy, .int to, .int 0, .ref rows, .ref made, .int 0, .int 0, .int 0, .int 0, .int 0, .int 0, .ref mo])), (rows, .inr (1, [.int 2, .ref tb, .int 2])), (tb, .inl (g 5, 10, .inr (.inr (.inr (.inr (va_up (va_up (fun _ => none) 0 (some l1)) 1 (some l2))))))), (l1, .inr (1, [.int 0, .ref (g 10), .int 0])), (l2, .inr (1, [.int 0, .ref (g 10), .int 0]))] l1 0 (some (g 10)) 3 rfl  H_3.size) (va_cwF 0 hts gX12_result_Jx4a65c_isEmpty_aae02_f61Jx4a65c rfl rfl rfl (fw_0 hG) (by decide +kernel) ⟨Nat.le_of_ble_eq_true rfl, Nat.le_of_ble_eq_true rfl⟩) ⟨PG_blind, va_recv hK hP (ci := 1) (q0 := 3) rfl rfl, PG_call hK hG hS hP hD (A_all hD hA hS.1)⟩ rfl rfl hl.1 rfl (lv_room (Nat.le_of_ble_eq_true rfl)) dX12_result_28 ⟨Nat.le_of_ble_eq_true rfl, Nat.le_of_ble_eq_true rfl⟩) hS (fun q _ h => (A_all hD hA hS.1) q h) (A_all hD hA hS.1) (fun r_4 u_4 t_4 H_4 L_4 ht_4 hvm_4 hw_4 hB_4 hz_4 hk_4 hS => ?_)
  replace hB_4 := (show va_P (dC, dI) vwCl [(t, .inr (14, [.ref byy, .int to, .int 0, .ref rows, .ref made, .int 0, .int 0, .int 0, .int 0, .int 0, .int 0, .ref mo])), (rows, .inr (1, [.int 2, .ref tb, .int 2])), (tb, .inl (g 5, 10, .inr (.inr (.inr (.inr (va_up (va_up (fun _ => none) 0 (some l1)) 1 (some l2))))))), (l1, .inr (1, [.int 0, .ref (g 10), .int 0])), (l2, .inr (1, [.int 0, .ref (g 10), .int 0]))] t_4.heap from hB_4)
  rw [ht_4] at hB_4
  have hP := hB_4
  obtain rfl : r_4 = 1 := hw_4
  refine lv_if_ne (tgt := 59) hx hb dX12_result_33 (by decide) (fun c_5 => ?_) (fun c_5 => absurd c_5 (by decide))
  refine lv_iinc (v := 1) (lv' := [(1, .int 1), (0, .ref t)]) hx hb dX12_result_59 hl (k := 0) rfl (by decide) (by decide) rfl (fun ls hl => ?_)
  refine lv_goto (tgt := 2) hx hb dX12_result_62 (by decide) ?_
  refine lv_iload_n hx hb dX12_result_2 rfl (lv_at hl 0 rfl) ?_
  refine lv_aload_n hx hb dX12_result_3 rfl (lv_at hl 1 rfl) ?_
  refine va_get (D := (dC, dI)) (ci := 14) (v := .ref rows) (C := RX12) (T := TX12) (N := 12) hx hb hts hiX12 hown hK hP 0 rfl rfl 3 (by decide) hf22 (fun _ h9 => h9) rfl dX12_result_4 ?_
  refine va_callFi (va_runF (As := []) (rest := [.int 1]) (hK.1 1 _ rfl).2 ⟨hx, hb, hml, hown, hts⟩ (c_Jx4a65c_size_8abf5 l dC dI g [(t, .inr (14, [.ref byy, .int to, .int 0, .ref rows, .ref made, .int 0, .int 0, .int 0, .int 0, .int 0, .int 0, .ref mo])), (rows, .inr (1, [.int 2, .ref tb, .int 2])), (tb, .inl (g 5, 10, .inr (.inr (.inr (.inr (va_up (va_up (fun _ => none) 0 (some l1)) 1 (some l2))))))), (l1, .inr (1, [.int 0, .ref (g 10), .int 0])), (l2, .inr (1, [.int 0, .ref (g 10), .int 0]))] rows 2 2 (some tb) 1 rfl  H_4.size) (va_cwF 0 hts gX12_result_Jx4a65c_size_8abf5_f54Jx4a65c rfl rfl rfl (fw_1 hG) (by decide +kernel) ⟨Nat.le_of_ble_eq_true rfl, Nat.le_of_ble_eq_true rfl⟩) ⟨PG_blind, va_recv hK hP (ci := 1) (q0 := 1) rfl rfl, PG_call hK hG hS hP hD (A_all hD hA hS.1)⟩ rfl rfl hl.1 rfl (lv_room (Nat.le_of_ble_eq_true rfl)) dX12_result_7 ⟨Nat.le_of_ble_eq_true rfl, Nat.le_of_ble_eq_true rfl⟩) hS (fun q _ h => (A_all hD hA hS.1) q h) (A_all hD hA hS.1) (fun r_6 u_6 t_6 H_6 L_6 ht_6 hvm_6 hw_6 hB_6 hz_6 hk_6 hS => ?_)
  replace hB_6 := (show va_P (dC, dI) vwCl [(t, .inr (14, [.ref byy, .int to, .int 0, .ref rows, .ref made, .int 0, .int 0, .int 0, .int 0, .int 0, .int 0, .ref mo])), (rows, .inr (1, [.int 2, .ref tb, .int 2])), (tb, .inl (g 5, 10, .inr (.inr (.inr (.inr (va_up (va_up (fun _ => none) 0 (some l1)) 1 (some l2))))))), (l1, .inr (1, [.int 0, .ref (g 10), .int 0])), (l2, .inr (1, [.int 0, .ref (g 10), .int 0]))] t_6.heap from hB_6)
  rw [ht_6] at hB_6
  have hP := hB_6
  obtain rfl : r_6 = 2 := hw_6
  refine lv_icmp_ge (tgt := 65) hx hb dX12_result_12 (by decide) (fun c_7 => absurd c_7 (by decide)) (fun c_7 => ?_)
  refine lv_aload_n hx hb dX12_result_15 rfl (lv_at hl 1 rfl) ?_
  refine va_get (D := (dC, dI)) (ci := 14) (v := .ref rows) (C := RX12) (T := TX12) (N := 12) hx hb hts hiX12 hown hK hP 0 rfl rfl 3 (by decide) hf22 (fun _ h9 => h9) rfl dX12_result_16 ?_
  refine lv_iload_n hx hb dX12_result_19 rfl (lv_at hl 0 rfl) ?_
  refine va_callFq (va_runF (As := [.int 1]) (rest := []) (hK.1 1 _ rfl).2 ⟨hx, hb, hml, hown, hts⟩ (c_Jx4a65c_get_915e3_12 l dC dI g [(t, .inr (14, [.ref byy, .int to, .int 0, .ref rows, .ref made, .int 0, .int 0, .int 0, .int 0, .int 0, .int 0, .ref mo])), (rows, .inr (1, [.int 2, .ref tb, .int 2])), (tb, .inl (g 5, 10, .inr (.inr (.inr (.inr (va_up (va_up (fun _ => none) 0 (some l1)) 1 (some l2))))))), (l1, .inr (1, [.int 0, .ref (g 10), .int 0])), (l2, .inr (1, [.int 0, .ref (g 10), .int 0]))] rows tb l2 2 (va_up (va_up (fun _ => none) 0 (some l1)) 1 (some l2)) 1 rfl 2 rfl rfl H_6.size) (va_cwF 1 hts gX12_result_Jx4a65c_get_915e3_f65Jx4a65c rfl rfl rfl (fw_3 hG) (by decide +kernel) ⟨Nat.le_of_ble_eq_true rfl, Nat.le_of_ble_eq_true rfl⟩) ⟨PG_blind, va_recv hK hP (ci := 1) (q0 := 1) rfl rfl, PG_call hK hG hS hP hD (A_all hD hA hS.1)⟩ rfl rfl hl.1 rfl (lv_room (Nat.le_of_ble_eq_true rfl)) dX12_result_20 ⟨Nat.le_of_ble_eq_true rfl, Nat.le_of_ble_eq_true rfl⟩) hS (fun q _ h => (A_all hD hA hS.1) q h) (A_all hD hA hS.1) (fun r_8 u_8 t_8 H_8 L_8 ht_8 hvm_8 hw_8 hB_8 hz_8 hk_8 hS => ?_)
  replace hB_8 := (show va_P (dC, dI) vwCl [(t, .inr (14, [.ref byy, .int to, .int 0, .ref rows, .ref made, .int 0, .int 0, .int 0, .int 0, .int 0, .int 0, .ref mo])), (rows, .inr (1, [.int 2, .ref tb, .int 2])), (tb, .inl (g 5, 10, .inr (.inr (.inr (.inr (va_up (va_up (fun _ => none) 0 (some l1)) 1 (some l2))))))), (l1, .inr (1, [.int 0, .ref (g 10), .int 0])), (l2, .inr (1, [.int 0, .ref (g 10), .int 0]))] t_8.heap from hB_8)
  rw [ht_8] at hB_8
  have hP := hB_8
  obtain rfl : r_8 = some l2 := hw_8
  refine W.eq (g2 := F0 m 25 ls [.ref l2]) rfl ?_
  refine va_castY hx hb hown hcl45 (cc_0 hG) (va_recv hK hP (ci := 1) (q0 := 4) rfl rfl) dX12_result_25 ?_
  refine va_callFi (va_runF (As := []) (rest := []) (hK.1 1 _ rfl).2 ⟨hx, hb, hml, hown, hts⟩ (c_Jx4a65c_isEmpty_aae02_0 l dC dI g [(t, .inr (14, [.ref byy, .int to, .int 0, .ref rows, .ref made, .int 0, .int 0, .int 0, .int 0, .int 0, .int 0, .ref mo])), (rows, .inr (1, [.int 2, .ref tb, .int 2])), (tb, .inl (g 5, 10, .inr (.inr (.inr (.inr (va_up (va_up (fun _ => none) 0 (some l1)) 1 (some l2))))))), (l1, .inr (1, [.int 0, .ref (g 10), .int 0])), (l2, .inr (1, [.int 0, .ref (g 10), .int 0]))] l2 0 (some (g 10)) 4 rfl  H_8.size) (va_cwF 0 hts gX12_result_Jx4a65c_isEmpty_aae02_f61Jx4a65c rfl rfl rfl (fw_0 hG) (by decide +kernel) ⟨Nat.le_of_ble_eq_true rfl, Nat.le_of_ble_eq_true rfl⟩) ⟨PG_blind, va_recv hK hP (ci := 1) (q0 := 4) rfl rfl, PG_call hK hG hS hP hD (A_all hD hA hS.1)⟩ rfl rfl hl.1 rfl (lv_room (Nat.le_of_ble_eq_true rfl)) dX12_result_28 ⟨Nat.le_of_ble_eq_true rfl, Nat.le_of_ble_eq_true rfl⟩) hS (fun q _ h => (A_all hD hA hS.1) q h) (A_all hD hA hS.1) (fun r_9 u_9 t_9 H_9 L_9 ht_9 hvm_9 hw_9 hB_9 hz_9 hk_9 hS => ?_)
  replace hB_9 := (show va_P (dC, dI) vwCl [(t, .inr (14, [.ref byy, .int to, .int 0, .ref rows, .ref made, .int 0, .int 0, .int 0, .int 0, .int 0, .int 0, .ref mo])), (rows, .inr (1, [.int 2, .ref tb, .int 2])), (tb, .inl (g 5, 10, .inr (.inr (.inr (.inr (va_up (va_up (fun _ => none) 0 (some l1)) 1 (some l2))))))), (l1, .inr (1, [.int 0, .ref (g 10), .int 0])), (l2, .inr (1, [.int 0, .ref (g 10), .int 0]))] t_9.heap from hB_9)
  rw [ht_9] at hB_9
  have hP := hB_9
  obtain rfl : r_9 = 1 := hw_9
  refine lv_if_ne (tgt := 59) hx hb dX12_result_33 (by decide) (fun c_10 => ?_) (fun c_10 => absurd c_10 (by decide))
  refine lv_iinc (v := 2) (lv' := [(1, .int 2), (0, .ref t)]) hx hb dX12_result_59 hl (k := 0) rfl (by decide) (by decide) rfl (fun ls hl => ?_)
  refine lv_goto (tgt := 2) hx hb dX12_result_62 (by decide) ?_
  refine lv_iload_n hx hb dX12_result_2 rfl (lv_at hl 0 rfl) ?_
  refine lv_aload_n hx hb dX12_result_3 rfl (lv_at hl 1 rfl) ?_
  refine va_get (D := (dC, dI)) (ci := 14) (v := .ref rows) (C := RX12) (T := TX12) (N := 12) hx hb hts hiX12 hown hK hP 0 rfl rfl 3 (by decide) hf22 (fun _ h9 => h9) rfl dX12_result_4 ?_
  refine va_callFi (va_runF (As := []) (rest := [.int 2]) (hK.1 1 _ rfl).2 ⟨hx, hb, hml, hown, hts⟩ (c_Jx4a65c_size_8abf5 l dC dI g [(t, .inr (14, [.ref byy, .int to, .int 0, .ref rows, .ref made, .int 0, .int 0, .int 0, .int 0, .int 0, .int 0, .ref mo])), (rows, .inr (1, [.int 2, .ref tb, .int 2])), (tb, .inl (g 5, 10, .inr (.inr (.inr (.inr (va_up (va_up (fun _ => none) 0 (some l1)) 1 (some l2))))))), (l1, .inr (1, [.int 0, .ref (g 10), .int 0])), (l2, .inr (1, [.int 0, .ref (g 10), .int 0]))] rows 2 2 (some tb) 1 rfl  H_9.size) (va_cwF 0 hts gX12_result_Jx4a65c_size_8abf5_f54Jx4a65c rfl rfl rfl (fw_1 hG) (by decide +kernel) ⟨Nat.le_of_ble_eq_true rfl, Nat.le_of_ble_eq_true rfl⟩) ⟨PG_blind, va_recv hK hP (ci := 1) (q0 := 1) rfl rfl, PG_call hK hG hS hP hD (A_all hD hA hS.1)⟩ rfl rfl hl.1 rfl (lv_room (Nat.le_of_ble_eq_true rfl)) dX12_result_7 ⟨Nat.le_of_ble_eq_true rfl, Nat.le_of_ble_eq_true rfl⟩) hS (fun q _ h => (A_all hD hA hS.1) q h) (A_all hD hA hS.1) (fun r_11 u_11 t_11 H_11 L_11 ht_11 hvm_11 hw_11 hB_11 hz_11 hk_11 hS => ?_)
  replace hB_11 := (show va_P (dC, dI) vwCl [(t, .inr (14, [.ref byy, .int to, .int 0, .ref rows, .ref made, .int 0, .int 0, .int 0, .int 0, .int 0, .int 0, .ref mo])), (rows, .inr (1, [.int 2, .ref tb, .int 2])), (tb, .inl (g 5, 10, .inr (.inr (.inr (.inr (va_up (va_up (fun _ => none) 0 (some l1)) 1 (some l2))))))), (l1, .inr (1, [.int 0, .ref (g 10), .int 0])), (l2, .inr (1, [.int 0, .ref (g 10), .int 0]))] t_11.heap from hB_11)
  rw [ht_11] at hB_11
  have hP := hB_11
  obtain rfl : r_11 = 2 := hw_11
  refine lv_icmp_ge (tgt := 65) hx hb dX12_result_12 (by decide) (fun c_12 => ?_) (fun c_12 => absurd (by decide) c_12)
  refine lv_iconst (v := 0) hx hb dX12_result_65 (by decide) ?_
  refine va_newa (atype := .int) (a0 := (0, .inl (fun _ => 0))) hx hb hnaint rfl hK hP hD hS hA (fun _ => rfl) (by decide) (N' := 0) (by decide) (Nat.le_of_ble_eq_true rfl) (Nat.le_of_ble_eq_true rfl) (Nat.le_of_ble_eq_true rfl) dX12_result_66 (fun q_13 cA_15 H_14 hK9 hP hD hS => ?_)
  obtain rfl : g 0 = cA_15 := K_one hK9 0 6 rfl rfl
  have hP : va_P (dC, dI) vwCl [(t, .inr (14, [.ref byy, .int to, .int 0, .ref rows, .ref made, .int 0, .int 0, .int 0, .int 0, .int 0, .int 0, .ref mo])), (rows, .inr (1, [.int 2, .ref tb, .int 2])), (tb, .inl (g 5, 10, .inr (.inr (.inr (.inr (va_up (va_up (fun _ => none) 0 (some l1)) 1 (some l2))))))), (l1, .inr (1, [.int 0, .ref (g 10), .int 0])), (l2, .inr (1, [.int 0, .ref (g 10), .int 0])), (q_13, .inl (g 0, 0, .inl (fun _ => 0)))] H_14 := hP
  have hD : va_D A [(t, .inr (14, [.ref byy, .int to, .int 0, .ref rows, .ref made, .int 0, .int 0, .int 0, .int 0, .int 0, .int 0, .ref mo])), (rows, .inr (1, [.int 2, .ref tb, .int 2])), (tb, .inl (g 5, 10, .inr (.inr (.inr (.inr (va_up (va_up (fun _ => none) 0 (some l1)) 1 (some l2))))))), (l1, .inr (1, [.int 0, .ref (g 10), .int 0])), (l2, .inr (1, [.int 0, .ref (g 10), .int 0])), (q_13, .inl (g 0, 0, .inl (fun _ => 0)))] := hD
  refine W.widen (k := 1) (n := 0) (by omega) (by omega) ?_
  have hP9 := hP.sub (ws' := [(t, .inr (14, [.ref byy, .int to, .int 0, .ref rows, .ref made, .int 0, .int 0, .int 0, .int 0, .int 0, .int 0, .ref mo])), (rows, .inr (1, [.int 2, .ref tb, .int 2])), (tb, .inl (g 5, 10, .inr (.inr (.inr (.inr (va_up (va_up (fun _ => none) 0 (some l1)) 1 (some l2))))))), (l1, .inr (1, [.int 0, .ref (g 10), .int 0])), (l2, .inr (1, [.int 0, .ref (g 10), .int 0])), (q_13, .inl (g 0, 0, .inl (fun _ => 0)))]) [0, 1, 2, 3, 4, 5] rfl
  have hD9 := hD.sub (ws' := [(t, .inr (14, [.ref byy, .int to, .int 0, .ref rows, .ref made, .int 0, .int 0, .int 0, .int 0, .int 0, .int 0, .ref mo])), (rows, .inr (1, [.int 2, .ref tb, .int 2])), (tb, .inl (g 5, 10, .inr (.inr (.inr (.inr (va_up (va_up (fun _ => none) 0 (some l1)) 1 (some l2))))))), (l1, .inr (1, [.int 0, .ref (g 10), .int 0])), (l2, .inr (1, [.int 0, .ref (g 10), .int 0])), (q_13, .inl (g 0, 0, .inl (fun _ => 0)))]) [0, 1, 2, 3, 4, 5] (by decide) rfl
  exact W.aret (v := .ref q_13) hx hb hr (Or.inr ⟨_, rfl⟩) (Or.inr ⟨_, rfl⟩) (fun t ht hW => ⟨⟨some q_13, (fun j => ([q_13] : List Nat).getD j 0), rfl, rfl, ⟨P_at ht hP9, hD9⟩⟩, hS.F ht⟩) hS.2.2 dX12_result_68
set_option maxHeartbeats 4000000 in
set_option maxRecDepth 100000 in
theorem c_X13_sort (l : Launch) (dC : Nat → ClassId) (dI : Nat → Nat → Nat) (g : Nat → ClassId) (b : Nat → Nat) (r1 : Nat → Nat) (r2 : Nat → Nat) (x : Int32) (y : Int32) (th : Int32) (sz : Nat) : Met l yX13_sort wsX13_sort ({ frames := 7, cells := 40, slots := 200, locals := 153 }) (va_Pc [.ref (b 0), .int x, .int y] (PG (dC, dI) g (modW b r1 r2 g th) sz)) (va_Qi (fun (r : Int32) (_ : Unit) => (cd (TOKb x && TOKb y) true true) = 0 → r = 0) (fun (_ : Unit) t => ∃ fs : List Value, va_P (dC, dI) vwCl [(b 0, .inr (15, .int (cd (TOKb x && TOKb y) true true) :: fs))] t.heap) (va_A (modW b r1 r2 g th) sz)) 40 200 (va_A (modW b r1 r2 g th) sz) := by
  refine Met.ofW (cc := cX13_sort) (maxL := 4) (ret := (some .int)) (by decide) rfl ?_
  intro p e s m args below meth c s₁ B hml hv
  obtain ⟨rfl, hsz, hP, hK, hD0, hG⟩ := hv
  have hx := B.exec
  have hb := B.bytes
  have hr := B.returns
  have hts := atoms_spec (ws := wsX13_sort) B.pre
  have hown : s.vm.findClass RX13 = some m.cls := findClass_of_methodNamed B.named
  have hlocks := B.notSynchronized
  subst hsz
  have hD := hD0.self (sz := s.heap.size)
  generalize hAe : va_A (modW b r1 r2 g th) s.heap.size = A at hD hG ⊢
  have hA : ∀ q : Nat, s.heap.size ≤ q → A q := fun q h => by rw [← hAe]; exact Or.inr h
  have hS : va_S A s.heap s.heap [] := va_S.rf
  have hl := lv_entry ([.ref (b 0), .int x, .int y]) (n := 4) (Nat.le_of_ble_eq_true rfl)
  rw [lg_entry_eq]
  generalize (lg_sl ([.ref (b 0), .int x, .int y]) ++ List.replicate (4 - (lg_sl ([.ref (b 0), .int x, .int y])).length) Slot.unset).toArray = ls at hl ⊢
  have hl : lv_has ls 4 [(0, .ref (b 0)), (1, .int x), (2, .int y)] := hl
  have hcl147 := hts (Cond.classLink RX13 147 RX12) (by decide +kernel)
  have hinX12 := hts (Cond.instantiable RX12 12) (by decide +kernel)
  have hiniX12 := hts (Cond.initialized RX12) (by decide +kernel)
  have hiX12 : ∀ w ∈ u_ws RX12 TX12 12, w ∈ wsX13_sort := by decide +kernel
  have hf29 := hts (Cond.fieldLink RX13 29 "RunmergeOfficeModel" "tapes" "[[I") (by decide +kernel)
  have hiX13 : ∀ w ∈ u_ws RX13 TX13 14, w ∈ wsX13_sort := by decide +kernel
  have hf35 := hts (Cond.fieldLink RX13 35 "RunmergeOfficeModel" "settings" "[I") (by decide +kernel)
  have himX12_init := hts (Cond.instanceMethod yX12_init) (by decide +kernel)
  have hml149 := hts (Cond.methodLink RX13 149 yX12_init) (by decide +kernel)
  refine lv_aload_n hx hb dX13_sort_0 rfl (lv_at hl 0 rfl) ?_
  refine lv_iload_n hx hb dX13_sort_1 rfl (lv_at hl 1 rfl) ?_
  refine va_calli (va_runS (As := [.int x]) (rest := [.ref (b 0)]) ⟨hx, hb, hml, hown, hts⟩ (c_X13_isTape l dC dI g (modW b r1 r2 g th) x   s.heap.size) (va_cwS 1 hts gX13_sort_X13_isTape rfl rfl rfl (by decide +kernel) ⟨Nat.le_of_ble_eq_true rfl, Nat.le_of_ble_eq_true rfl⟩) ⟨PG_blind, PG_call hK hG hS hP hD (A_all hD hA hS.1)⟩ rfl rfl hl.1 rfl (lv_room (Nat.le_of_ble_eq_true rfl)) dX13_sort_2 ⟨Nat.le_of_ble_eq_true rfl, Nat.le_of_ble_eq_true rfl⟩) hS (fun q _ h => (A_all hD hA hS.1) q h) (A_all hD hA hS.1) (fun r_1 u_1 t_1 H_1 L_1 ht_1 hvm_1 hw_1 hB_1 hz_1 hk_1 hS => ?_)
  replace hB_1 := (show va_P (dC, dI) vwCl (modW b r1 r2 g th) t_1.heap from hB_1)
  rw [ht_1] at hB_1
  have hP := hB_1
  obtain rfl : r_1 = b2i (TOKb x) := hw_1
  refine lv_if_eq (tgt := 19) hx hb dX13_sort_5 (by decide) (fun c_2 => ?_) (fun c_2 => ?_)
  · have hB_3 : (TOKb x) = false := b2i_0 c_2
    refine lv_iconst (v := 0) hx hb dX13_sort_19 (by decide) ?_
    refine lv_iconst (v := 1) hx hb dX13_sort_20 (by decide) ?_
    refine lv_iconst (v := 1) hx hb dX13_sort_21 (by decide) ?_
    refine va_calli (va_runV (As := [.int 0, .int 1, .int 1]) (rest := []) ⟨hx, hb, hml, hown, hts⟩ (c_X13_passes l dC dI g b r1 r2 th false true true  H_1.size) (cwV 3 hts gX13_sort_X13_passes rfl rfl rfl (by decide +kernel) ⟨Nat.le_of_ble_eq_true rfl, Nat.le_of_ble_eq_true rfl⟩) ⟨PG_blind, va_recv hK hP (ci := 15) (q0 := 0) rfl (m_0 b r1 r2 g th), PG_call hK hG hS hP hD (A_all hD hA hS.1)⟩ rfl rfl hl.1 rfl (lv_room (Nat.le_of_ble_eq_true rfl)) dX13_sort_22 ⟨Nat.le_of_ble_eq_true rfl, Nat.le_of_ble_eq_true rfl⟩) hS (fun q _ h => (A_all hD hA hS.1) q h) (A_all hD hA hS.1) (fun r_4 u_4 t_4 H_4 L_4 ht_4 hvm_4 hw_4 hB_4 hz_4 hk_4 hS => ?_)
    rw [ht_4] at hB_4
    have hP : va_P (dC, dI) vwCl (modW b r1 r2 g (cd false true true)) H_4 := hB_4
    have hD : va_D A (modW b r1 r2 g (cd false true true)) := va_D_th hD
    obtain rfl : r_4 = 0 := hw_4.trans (by simp [b2i])
    refine lv_if_ne (tgt := 30) hx hb dX13_sort_25 (by decide) (fun c_5 => absurd (by decide) c_5) (fun c_5 => ?_)
    refine lv_iconst (v := 0) hx hb dX13_sort_28 (by decide) ?_
    refine W.widen (k := 40) (n := 200) (by omega) (by omega) ?_
    have hcd : (cd false true true) = (cd (TOKb x && TOKb y) true true) := by simp [cd, hB_3]
    have hP8 := hP.sub (ws' := [((b 0), .inr (15, [.int (cd false true true), .ref (b 1), .ref (b 2), .int 0, .ref (b 3), .ref (b 4), .ref (b 5), .null, .ref (b 6), .int 0, .int 0, .int 0, .int 0, .int 0]))]) [0] rfl
    rw [hcd] at hP8
    exact W.iret (v := 0) hx hb hr (fun t ht hW => ⟨⟨0, (), rfl, (fun h => by first | rfl | (exact absurd (cd_0.mp h) (by simp [hB_3]))), ⟨[.ref (b 1), .ref (b 2), .int 0, .ref (b 3), .ref (b 4), .ref (b 5), .null, .ref (b 6), .int 0, .int 0, .int 0, .int 0, .int 0], P_at ht hP8⟩⟩, hS.F ht⟩) hS.2.2 dX13_sort_29
  · have hB_3 : (TOKb x) = true := b2i_1 c_2
    obtain ⟨jx, hjx, rfl⟩ := TOK_ex hB_3
    refine lv_iload_n hx hb dX13_sort_8 rfl (lv_at hl 2 rfl) ?_
    refine va_calli (va_runS (As := [.int y]) (rest := [.ref (b 0)]) ⟨hx, hb, hml, hown, hts⟩ (c_X13_isTape l dC dI g (modW b r1 r2 g th) y   H_1.size) (va_cwS 1 hts gX13_sort_X13_isTape rfl rfl rfl (by decide +kernel) ⟨Nat.le_of_ble_eq_true rfl, Nat.le_of_ble_eq_true rfl⟩) ⟨PG_blind, PG_call hK hG hS hP hD (A_all hD hA hS.1)⟩ rfl rfl hl.1 rfl (lv_room (Nat.le_of_ble_eq_true rfl)) dX13_sort_9 ⟨Nat.le_of_ble_eq_true rfl, Nat.le_of_ble_eq_true rfl⟩) hS (fun q _ h => (A_all hD hA hS.1) q h) (A_all hD hA hS.1) (fun r_6 u_6 t_6 H_6 L_6 ht_6 hvm_6 hw_6 hB_6 hz_6 hk_6 hS => ?_)
    replace hB_6 := (show va_P (dC, dI) vwCl (modW b r1 r2 g th) t_6.heap from hB_6)
    rw [ht_6] at hB_6
    have hP := hB_6
    obtain rfl : r_6 = b2i (TOKb y) := hw_6
    refine lv_if_eq (tgt := 19) hx hb dX13_sort_12 (by decide) (fun c_7 => ?_) (fun c_7 => ?_)
    · have hB_8 : (TOKb y) = false := b2i_0 c_7
      refine lv_iconst (v := 0) hx hb dX13_sort_19 (by decide) ?_
      refine lv_iconst (v := 1) hx hb dX13_sort_20 (by decide) ?_
      refine lv_iconst (v := 1) hx hb dX13_sort_21 (by decide) ?_
      refine va_calli (va_runV (As := [.int 0, .int 1, .int 1]) (rest := []) ⟨hx, hb, hml, hown, hts⟩ (c_X13_passes l dC dI g b r1 r2 th false true true  H_6.size) (cwV 3 hts gX13_sort_X13_passes rfl rfl rfl (by decide +kernel) ⟨Nat.le_of_ble_eq_true rfl, Nat.le_of_ble_eq_true rfl⟩) ⟨PG_blind, va_recv hK hP (ci := 15) (q0 := 0) rfl (m_0 b r1 r2 g th), PG_call hK hG hS hP hD (A_all hD hA hS.1)⟩ rfl rfl hl.1 rfl (lv_room (Nat.le_of_ble_eq_true rfl)) dX13_sort_22 ⟨Nat.le_of_ble_eq_true rfl, Nat.le_of_ble_eq_true rfl⟩) hS (fun q _ h => (A_all hD hA hS.1) q h) (A_all hD hA hS.1) (fun r_9 u_9 t_9 H_9 L_9 ht_9 hvm_9 hw_9 hB_9 hz_9 hk_9 hS => ?_)
      rw [ht_9] at hB_9
      have hP : va_P (dC, dI) vwCl (modW b r1 r2 g (cd false true true)) H_9 := hB_9
      have hD : va_D A (modW b r1 r2 g (cd false true true)) := va_D_th hD
      obtain rfl : r_9 = 0 := hw_9.trans (by simp [b2i])
      refine lv_if_ne (tgt := 30) hx hb dX13_sort_25 (by decide) (fun c_10 => absurd (by decide) c_10) (fun c_10 => ?_)
      refine lv_iconst (v := 0) hx hb dX13_sort_28 (by decide) ?_
      refine W.widen (k := 40) (n := 200) (by omega) (by omega) ?_
      have hcd : (cd false true true) = (cd (TOKb (nI jx) && TOKb y) true true) := by simp [cd, (TOK_j hjx rfl), hB_8]
      have hP8 := hP.sub (ws' := [((b 0), .inr (15, [.int (cd false true true), .ref (b 1), .ref (b 2), .int 0, .ref (b 3), .ref (b 4), .ref (b 5), .null, .ref (b 6), .int 0, .int 0, .int 0, .int 0, .int 0]))]) [0] rfl
      rw [hcd] at hP8
      exact W.iret (v := 0) hx hb hr (fun t ht hW => ⟨⟨0, (), rfl, (fun h => by first | rfl | (exact absurd (cd_0.mp h) (by simp [(TOK_j hjx rfl), hB_8]))), ⟨[.ref (b 1), .ref (b 2), .int 0, .ref (b 3), .ref (b 4), .ref (b 5), .null, .ref (b 6), .int 0, .int 0, .int 0, .int 0, .int 0], P_at ht hP8⟩⟩, hS.F ht⟩) hS.2.2 dX13_sort_29
    · have hB_8 : (TOKb y) = true := b2i_1 c_7
      obtain ⟨jy, hjy, rfl⟩ := TOK_ex hB_8
      refine lv_iconst (v := 1) hx hb dX13_sort_15 (by decide) ?_
      refine lv_goto (tgt := 20) hx hb dX13_sort_16 (by decide) ?_
      refine lv_iconst (v := 1) hx hb dX13_sort_20 (by decide) ?_
      refine lv_iconst (v := 1) hx hb dX13_sort_21 (by decide) ?_
      refine va_calli (va_runV (As := [.int 1, .int 1, .int 1]) (rest := []) ⟨hx, hb, hml, hown, hts⟩ (c_X13_passes l dC dI g b r1 r2 th true true true  H_6.size) (cwV 3 hts gX13_sort_X13_passes rfl rfl rfl (by decide +kernel) ⟨Nat.le_of_ble_eq_true rfl, Nat.le_of_ble_eq_true rfl⟩) ⟨PG_blind, va_recv hK hP (ci := 15) (q0 := 0) rfl (m_0 b r1 r2 g th), PG_call hK hG hS hP hD (A_all hD hA hS.1)⟩ rfl rfl hl.1 rfl (lv_room (Nat.le_of_ble_eq_true rfl)) dX13_sort_22 ⟨Nat.le_of_ble_eq_true rfl, Nat.le_of_ble_eq_true rfl⟩) hS (fun q _ h => (A_all hD hA hS.1) q h) (A_all hD hA hS.1) (fun r_11 u_11 t_11 H_11 L_11 ht_11 hvm_11 hw_11 hB_11 hz_11 hk_11 hS => ?_)
      rw [ht_11] at hB_11
      have hP : va_P (dC, dI) vwCl (modW b r1 r2 g (cd true true true)) H_11 := hB_11
      have hD : va_D A (modW b r1 r2 g (cd true true true)) := va_D_th hD
      obtain rfl : r_11 = 1 := hw_11.trans (by simp [b2i])
      refine lv_if_ne (tgt := 30) hx hb dX13_sort_25 (by decide) (fun c_12 => ?_) (fun c_12 => absurd c_12 (by decide))
      obtain ⟨hP, hD⟩ := mod_x b r1 r2 g (cd true true true) jx hjx hP hD
      have hP : va_P (dC, dI) vwCl [((b 0), .inr (15, [.int (cd true true true), .ref (b 1), .ref (b 2), .int 0, .ref (b 3), .ref (b 4), .ref (b 5), .null, .ref (b 6), .int 0, .int 0, .int 0, .int 0, .int 0])), ((b 3), .inl (g 4, 8, .inr (.inr (.inr (.inr (fun i => if i < 8 then some (r1 i) else none)))))), ((r1 jx), .inl (g 0, 0, .inl (fun _ => 0))), ((b 1), .inl (g 0, 200, .inl (fun _ => 0))), ((b 2), .inl (g 0, 200, .inl (fun _ => 0))), ((b 5), .inl (g 0, 5, .inl stf))] H_11 := hP
      have hD : va_D A [((b 0), .inr (15, [.int (cd true true true), .ref (b 1), .ref (b 2), .int 0, .ref (b 3), .ref (b 4), .ref (b 5), .null, .ref (b 6), .int 0, .int 0, .int 0, .int 0, .int 0])), ((b 3), .inl (g 4, 8, .inr (.inr (.inr (.inr (fun i => if i < 8 then some (r1 i) else none)))))), ((r1 jx), .inl (g 0, 0, .inl (fun _ => 0))), ((b 1), .inl (g 0, 200, .inl (fun _ => 0))), ((b 2), .inl (g 0, 200, .inl (fun _ => 0))), ((b 5), .inl (g 0, 5, .inl stf))] := hD
      refine va_new (ci := 14) (fs := [.null, .int 0, .int 0, .null, .null, .int 0, .int 0, .int 0, .int 0, .int 0, .int 0, .null]) (C := RX12) (T := TX12) (N := 12) hx hb hts hiX12 tyX12 tyX12_ok hown hcl147 hinX12 hiniX12 hK hP hD hS hA rfl (fun j hj => by rcases (show j = 0 ∨ j = 1 ∨ j = 2 ∨ j = 3 ∨ j = 4 ∨ j = 5 ∨ j = 6 ∨ j = 7 ∨ j = 8 ∨ j = 9 ∨ j = 10 ∨ j = 11 by omega) with rfl | rfl | rfl | rfl | rfl | rfl | rfl | rfl | rfl | rfl | rfl | rfl <;> rfl) (Nat.le_of_ble_eq_true rfl) (Nat.le_of_ble_eq_true rfl) dX13_sort_30 (fun q_13 H_14 hP hD hS => ?_)
      have hP : va_P (dC, dI) vwCl [((b 0), .inr (15, [.int (cd true true true), .ref (b 1), .ref (b 2), .int 0, .ref (b 3), .ref (b 4), .ref (b 5), .null, .ref (b 6), .int 0, .int 0, .int 0, .int 0, .int 0])), ((b 3), .inl (g 4, 8, .inr (.inr (.inr (.inr (fun i => if i < 8 then some (r1 i) else none)))))), ((r1 jx), .inl (g 0, 0, .inl (fun _ => 0))), ((b 1), .inl (g 0, 200, .inl (fun _ => 0))), ((b 2), .inl (g 0, 200, .inl (fun _ => 0))), ((b 5), .inl (g 0, 5, .inl stf)), (q_13, .inr (14, [.null, .int 0, .int 0, .null, .null, .int 0, .int 0, .int 0, .int 0, .int 0, .int 0, .null]))] H_14 := hP
      have hD : va_D A [((b 0), .inr (15, [.int (cd true true true), .ref (b 1), .ref (b 2), .int 0, .ref (b 3), .ref (b 4), .ref (b 5), .null, .ref (b 6), .int 0, .int 0, .int 0, .int 0, .int 0])), ((b 3), .inl (g 4, 8, .inr (.inr (.inr (.inr (fun i => if i < 8 then some (r1 i) else none)))))), ((r1 jx), .inl (g 0, 0, .inl (fun _ => 0))), ((b 1), .inl (g 0, 200, .inl (fun _ => 0))), ((b 2), .inl (g 0, 200, .inl (fun _ => 0))), ((b 5), .inl (g 0, 5, .inl stf)), (q_13, .inr (14, [.null, .int 0, .int 0, .null, .null, .int 0, .int 0, .int 0, .int 0, .int 0, .int 0, .null]))] := hD
      refine W.widen (k := 1) (n := 12) (by omega) (by omega) ?_
      refine lv_dup hx hb dX13_sort_33 rfl ?_
      refine lv_aload_n hx hb dX13_sort_34 rfl (lv_at hl 0 rfl) ?_
      refine lv_aload_n hx hb dX13_sort_35 rfl (lv_at hl 0 rfl) ?_
      refine va_get (D := (dC, dI)) (ci := 15) (v := .ref (b 3)) (C := RX13) (T := TX13) (N := 14) hx hb hts hiX13 hown hK hP 0 rfl rfl 4 (by decide) hf29 (fun _ h9 => h9) rfl dX13_sort_36 ?_
      refine lv_iload_n hx hb dX13_sort_39 rfl (lv_at hl 1 rfl) ?_
      refine va_aldA hx hb hK hP 1 rfl (vp_in_nI hjx (by decide)) dX13_sort_40 ?_
      refine W.eq (g2 := F0 m 41 ls [.ref (r1 jx), .ref (b 0), .ref q_13, .ref q_13]) (by rw [nI_clamp (show jx < 2 ^ 31 by omega)]; simp only [if_pos hjx]; rfl) ?_
      refine lv_iload_n hx hb dX13_sort_41 rfl (lv_at hl 2 rfl) ?_
      refine lv_aload_n hx hb dX13_sort_42 rfl (lv_at hl 0 rfl) ?_
      refine va_get (D := (dC, dI)) (ci := 15) (v := .ref (b 5)) (C := RX13) (T := TX13) (N := 14) hx hb hts hiX13 hown hK hP 0 rfl rfl 6 (by decide) hf35 (fun _ h9 => h9) rfl dX13_sort_43 ?_
      have hPc := hP.sub (ws' := [(q_13, .inr (14, [.null, .int 0, .int 0, .null, .null, .int 0, .int 0, .int 0, .int 0, .int 0, .int 0, .null])), ((b 0), .inr (15, [.int (cd true true true), .ref (b 1), .ref (b 2), .int 0, .ref (b 3), .ref (b 4), .ref (b 5), .null, .ref (b 6), .int 0, .int 0, .int 0, .int 0, .int 0])), ((r1 jx), .inl (g 0, 0, .inl (fun _ => 0))), ((b 5), .inl (g 0, 5, .inl stf))]) [6, 0, 2, 5] rfl
      have hDc := hD.sub (ws' := [(q_13, .inr (14, [.null, .int 0, .int 0, .null, .null, .int 0, .int 0, .int 0, .int 0, .int 0, .int 0, .null])), ((b 0), .inr (15, [.int (cd true true true), .ref (b 1), .ref (b 2), .int 0, .ref (b 3), .ref (b 4), .ref (b 5), .null, .ref (b 6), .int 0, .int 0, .int 0, .int 0, .int 0])), ((r1 jx), .inl (g 0, 0, .inl (fun _ => 0))), ((b 5), .inl (g 0, 5, .inl stf))]) [6, 0, 2, 5] (by decide) rfl
      have hFc := va_free (wc := [(q_13, .inr (14, [.null, .int 0, .int 0, .null, .null, .int 0, .int 0, .int 0, .int 0, .int 0, .int 0, .null])), ((b 0), .inr (15, [.int (cd true true true), .ref (b 1), .ref (b 2), .int 0, .ref (b 3), .ref (b 4), .ref (b 5), .null, .ref (b 6), .int 0, .int 0, .int 0, .int 0, .int 0])), ((r1 jx), .inl (g 0, 0, .inl (fun _ => 0))), ((b 5), .inl (g 0, 5, .inl stf))]) hD hS hA [6, 0, 2, 5] rfl
      refine va_callv (va_runI (As := [.ref (b 0), .ref (r1 jx), .int (nI jy), .ref (b 5)]) (rest := [.ref q_13]) ⟨hx, hb, hml, hown, hts⟩ (c_X12_init_10 l dC dI g q_13 (b 0) (r1 jx) (b 5) (nI jy) (fun _ => 0) stf (cd true true true) (b 1) (b 2) 0 (b 3) (b 4) (b 5) none (b 6) 0 0 0 0 0 (by decide) (by decide) (by decide) (by decide) (by decide) H_14.size) (cwI 4 hts gX13_sort_X12_init rfl rfl rfl hiniX12 hml149 himX12_init rfl (by decide +kernel) ⟨Nat.le_of_ble_eq_true rfl, Nat.le_of_ble_eq_true rfl⟩) ⟨PG_blind, PG_call hK hG hS hPc hDc hFc⟩ rfl rfl hl.1 rfl (lv_room (Nat.le_of_ble_eq_true rfl)) dX13_sort_46 ⟨Nat.le_of_ble_eq_true rfl, Nat.le_of_ble_eq_true rfl⟩) hS (fun q _ h => hFc q h) hFc (fun u_15 t_15 H_15 L_15 ht_15 hvm_15 hw_15 hB_15 hz_15 hk_15 hS => ?_)
      obtain ⟨hP1, hD1⟩ := hB_15
      rw [ht_15] at hP1
      obtain ⟨hP, hD⟩ := va_join (wr := [((b 3), .inl (g 4, 8, .inr (.inr (.inr (.inr (fun i => if i < 8 then some (r1 i) else none)))))), ((b 1), .inl (g 0, 200, .inl (fun _ => 0))), ((b 2), .inl (g 0, 200, .inl (fun _ => 0)))]) (w1 := [(q_13, .inr (14, [.ref (u_15 0), .int (nI jy), .int 0, .ref (u_15 1), .ref (u_15 2), .int 0, .int 0, .int 0, .int 0, .int 0, .int 0, .ref (b 0)])), ((u_15 0), .inl (g 0, 5, .inl (upd (upd (upd (upd (upd (fun _ => 0) (0 : Int32).toNatClampNeg 0) (1 : Int32).toNatClampNeg 1) (2 : Int32).toNatClampNeg 4) (3 : Int32).toNatClampNeg 0) (4 : Int32).toNatClampNeg 2))), ((u_15 2), .inr (1, [.int 0, .ref (g 10), .int 0])), ((u_15 1), .inr (1, [.int 1, .ref (u_15 3), .int 1])), ((u_15 3), .inl (g 5, 10, .inr (.inr (.inr (.inr (va_up (fun _ => none) 0 (some (u_15 4)))))))), ((u_15 4), .inr (1, [.int 0, .ref (g 10), .int 0])), ((b 0), .inr (15, [.int (cd true true true), .ref (b 1), .ref (b 2), .int 0, .ref (b 3), .ref (b 4), .ref (b 5), .null, .ref (b 6), .int 0, .int 0, .int 0, .int 0, .int 0])), ((r1 jx), .inl (g 0, 0, .inl (fun _ => 0))), ((b 5), .inl (g 0, 5, .inl stf))]) hP hD [6, 0, 2, 5] [1, 3, 4] rfl rfl (by decide) (by decide) hk_15 hFc hP1 hD1
      have hP : va_P (dC, dI) vwCl [((b 3), .inl (g 4, 8, .inr (.inr (.inr (.inr (fun i => if i < 8 then some (r1 i) else none)))))), ((b 1), .inl (g 0, 200, .inl (fun _ => 0))), ((b 2), .inl (g 0, 200, .inl (fun _ => 0))), (q_13, .inr (14, [.ref (u_15 0), .int (nI jy), .int 0, .ref (u_15 1), .ref (u_15 2), .int 0, .int 0, .int 0, .int 0, .int 0, .int 0, .ref (b 0)])), ((u_15 0), .inl (g 0, 5, .inl (upd (upd (upd (upd (upd (fun _ => 0) (0 : Int32).toNatClampNeg 0) (1 : Int32).toNatClampNeg 1) (2 : Int32).toNatClampNeg 4) (3 : Int32).toNatClampNeg 0) (4 : Int32).toNatClampNeg 2))), ((u_15 2), .inr (1, [.int 0, .ref (g 10), .int 0])), ((u_15 1), .inr (1, [.int 1, .ref (u_15 3), .int 1])), ((u_15 3), .inl (g 5, 10, .inr (.inr (.inr (.inr (va_up (fun _ => none) 0 (some (u_15 4)))))))), ((u_15 4), .inr (1, [.int 0, .ref (g 10), .int 0])), ((b 0), .inr (15, [.int (cd true true true), .ref (b 1), .ref (b 2), .int 0, .ref (b 3), .ref (b 4), .ref (b 5), .null, .ref (b 6), .int 0, .int 0, .int 0, .int 0, .int 0])), ((r1 jx), .inl (g 0, 0, .inl (fun _ => 0))), ((b 5), .inl (g 0, 5, .inl stf))] H_15 := hP
      have hD : va_D A [((b 3), .inl (g 4, 8, .inr (.inr (.inr (.inr (fun i => if i < 8 then some (r1 i) else none)))))), ((b 1), .inl (g 0, 200, .inl (fun _ => 0))), ((b 2), .inl (g 0, 200, .inl (fun _ => 0))), (q_13, .inr (14, [.ref (u_15 0), .int (nI jy), .int 0, .ref (u_15 1), .ref (u_15 2), .int 0, .int 0, .int 0, .int 0, .int 0, .int 0, .ref (b 0)])), ((u_15 0), .inl (g 0, 5, .inl (upd (upd (upd (upd (upd (fun _ => 0) (0 : Int32).toNatClampNeg 0) (1 : Int32).toNatClampNeg 1) (2 : Int32).toNatClampNeg 4) (3 : Int32).toNatClampNeg 0) (4 : Int32).toNatClampNeg 2))), ((u_15 2), .inr (1, [.int 0, .ref (g 10), .int 0])), ((u_15 1), .inr (1, [.int 1, .ref (u_15 3), .int 1])), ((u_15 3), .inl (g 5, 10, .inr (.inr (.inr (.inr (va_up (fun _ => none) 0 (some (u_15 4)))))))), ((u_15 4), .inr (1, [.int 0, .ref (g 10), .int 0])), ((b 0), .inr (15, [.int (cd true true true), .ref (b 1), .ref (b 2), .int 0, .ref (b 3), .ref (b 4), .ref (b 5), .null, .ref (b 6), .int 0, .int 0, .int 0, .int 0, .int 0])), ((r1 jx), .inl (g 0, 0, .inl (fun _ => 0))), ((b 5), .inl (g 0, 5, .inl stf))] := hD
      refine W.widen (k := 9) (n := 45) (by omega) (by omega) ?_
      refine lv_astore_n (lv' := [(3, .ref q_13), (0, .ref (b 0)), (1, .int (nI jx)), (2, .int (nI jy))]) hx hb dX13_sort_49 rfl hl (by decide) rfl (fun ls hl => ?_)
      refine lv_aload_n hx hb dX13_sort_50 rfl (lv_at hl 0 rfl) ?_
      refine va_callv (va_runV (As := []) (rest := []) ⟨hx, hb, hml, hown, hts⟩ (c_X12_goes_0 l dC dI g [((b 3), .inl (g 4, 8, .inr (.inr (.inr (.inr (fun i => if i < 8 then some (r1 i) else none)))))), ((b 1), .inl (g 0, 200, .inl (fun _ => 0))), ((b 2), .inl (g 0, 200, .inl (fun _ => 0))), (q_13, .inr (14, [.ref (u_15 0), .int (nI jy), .int 0, .ref (u_15 1), .ref (u_15 2), .int 0, .int 0, .int 0, .int 0, .int 0, .int 0, .ref (b 0)])), ((u_15 0), .inl (g 0, 5, .inl (upd (upd (upd (upd (upd (fun _ => 0) (0 : Int32).toNatClampNeg 0) (1 : Int32).toNatClampNeg 1) (2 : Int32).toNatClampNeg 4) (3 : Int32).toNatClampNeg 0) (4 : Int32).toNatClampNeg 2))), ((u_15 2), .inr (1, [.int 0, .ref (g 10), .int 0])), ((u_15 1), .inr (1, [.int 1, .ref (u_15 3), .int 1])), ((u_15 3), .inl (g 5, 10, .inr (.inr (.inr (.inr (va_up (fun _ => none) 0 (some (u_15 4)))))))), ((u_15 4), .inr (1, [.int 0, .ref (g 10), .int 0])), ((b 0), .inr (15, [.int (cd true true true), .ref (b 1), .ref (b 2), .int 0, .ref (b 3), .ref (b 4), .ref (b 5), .null, .ref (b 6), .int 0, .int 0, .int 0, .int 0, .int 0])), ((r1 jx), .inl (g 0, 0, .inl (fun _ => 0))), ((b 5), .inl (g 0, 5, .inl stf))] q_13 (u_15 0) (u_15 1) (u_15 2) (b 0) (u_15 3) (u_15 4) (nI jy) 3 rfl 6 rfl 7 rfl 8 rfl  H_15.size) (cwV 0 hts gX13_sort_X12_goes rfl rfl rfl (by decide +kernel) ⟨Nat.le_of_ble_eq_true rfl, Nat.le_of_ble_eq_true rfl⟩) ⟨PG_blind, va_recv hK hP (ci := 14) (q0 := 3) rfl rfl, PG_call hK hG hS hP hD (A_all hD hA hS.1)⟩ rfl rfl hl.1 rfl (lv_room (Nat.le_of_ble_eq_true rfl)) dX13_sort_51 ⟨Nat.le_of_ble_eq_true rfl, Nat.le_of_ble_eq_true rfl⟩) hS (fun q _ h => (A_all hD hA hS.1) q h) (A_all hD hA hS.1) (fun u_16 t_16 H_16 L_16 ht_16 hvm_16 hw_16 hB_16 hz_16 hk_16 hS => ?_)
      replace hB_16 := (show va_P (dC, dI) vwCl [((b 3), .inl (g 4, 8, .inr (.inr (.inr (.inr (fun i => if i < 8 then some (r1 i) else none)))))), ((b 1), .inl (g 0, 200, .inl (fun _ => 0))), ((b 2), .inl (g 0, 200, .inl (fun _ => 0))), (q_13, .inr (14, [.ref (u_15 0), .int (nI jy), .int 0, .ref (u_15 1), .ref (u_15 2), .int 0, .int 0, .int 0, .int 0, .int 0, .int 0, .ref (b 0)])), ((u_15 0), .inl (g 0, 5, .inl (upd (upd (upd (upd (upd (fun _ => 0) (0 : Int32).toNatClampNeg 0) (1 : Int32).toNatClampNeg 1) (2 : Int32).toNatClampNeg 4) (3 : Int32).toNatClampNeg 0) (4 : Int32).toNatClampNeg 2))), ((u_15 2), .inr (1, [.int 0, .ref (g 10), .int 0])), ((u_15 1), .inr (1, [.int 1, .ref (u_15 3), .int 1])), ((u_15 3), .inl (g 5, 10, .inr (.inr (.inr (.inr (va_up (fun _ => none) 0 (some (u_15 4)))))))), ((u_15 4), .inr (1, [.int 0, .ref (g 10), .int 0])), ((b 0), .inr (15, [.int (cd true true true), .ref (b 1), .ref (b 2), .int 0, .ref (b 3), .ref (b 4), .ref (b 5), .null, .ref (b 6), .int 0, .int 0, .int 0, .int 0, .int 0])), ((r1 jx), .inl (g 0, 0, .inl (fun _ => 0))), ((b 5), .inl (g 0, 5, .inl stf))] t_16.heap from hB_16)
      rw [ht_16] at hB_16
      have hP := hB_16
      refine lv_aload_n hx hb dX13_sort_54 rfl (lv_at hl 1 rfl) ?_
      refine va_get (D := (dC, dI)) (ci := 15) (v := .ref (b 3)) (C := RX13) (T := TX13) (N := 14) hx hb hts hiX13 hown hK hP 9 rfl rfl 4 (by decide) hf29 (fun _ h9 => h9) rfl dX13_sort_55 ?_
      refine lv_iload_n hx hb dX13_sort_58 rfl (lv_at hl 3 rfl) ?_
      refine lv_aload_n hx hb dX13_sort_59 rfl (lv_at hl 0 rfl) ?_
      have hPc := hP.sub (ws' := [(q_13, .inr (14, [.ref (u_15 0), .int (nI jy), .int 0, .ref (u_15 1), .ref (u_15 2), .int 0, .int 0, .int 0, .int 0, .int 0, .int 0, .ref (b 0)])), ((u_15 1), .inr (1, [.int 1, .ref (u_15 3), .int 1])), ((u_15 3), .inl (g 5, 10, .inr (.inr (.inr (.inr (va_up (fun _ => none) 0 (some (u_15 4)))))))), ((u_15 4), .inr (1, [.int 0, .ref (g 10), .int 0]))]) [3, 6, 7, 8] rfl
      have hDc := hD.sub (ws' := [(q_13, .inr (14, [.ref (u_15 0), .int (nI jy), .int 0, .ref (u_15 1), .ref (u_15 2), .int 0, .int 0, .int 0, .int 0, .int 0, .int 0, .ref (b 0)])), ((u_15 1), .inr (1, [.int 1, .ref (u_15 3), .int 1])), ((u_15 3), .inl (g 5, 10, .inr (.inr (.inr (.inr (va_up (fun _ => none) 0 (some (u_15 4)))))))), ((u_15 4), .inr (1, [.int 0, .ref (g 10), .int 0]))]) [3, 6, 7, 8] (by decide) rfl
      have hFc := va_free (wc := [(q_13, .inr (14, [.ref (u_15 0), .int (nI jy), .int 0, .ref (u_15 1), .ref (u_15 2), .int 0, .int 0, .int 0, .int 0, .int 0, .int 0, .ref (b 0)])), ((u_15 1), .inr (1, [.int 1, .ref (u_15 3), .int 1])), ((u_15 3), .inl (g 5, 10, .inr (.inr (.inr (.inr (va_up (fun _ => none) 0 (some (u_15 4)))))))), ((u_15 4), .inr (1, [.int 0, .ref (g 10), .int 0]))]) hD hS hA [3, 6, 7, 8] rfl
      refine va_callq (va_runV (As := []) (rest := [.int (nI jy), .ref (b 3)]) ⟨hx, hb, hml, hown, hts⟩ (c_X12_result_0 l dC dI g q_13 (u_15 0) (u_15 1) (u_15 2) (b 0) (u_15 3) (u_15 4) (nI jy)  H_16.size) (cwV 0 hts gX13_sort_X12_result rfl rfl rfl (by decide +kernel) ⟨Nat.le_of_ble_eq_true rfl, Nat.le_of_ble_eq_true rfl⟩) ⟨PG_blind, va_recv hK hP (ci := 14) (q0 := 3) rfl rfl, PG_call hK hG hS hPc hDc hFc⟩ rfl rfl hl.1 rfl (lv_room (Nat.le_of_ble_eq_true rfl)) dX13_sort_60 ⟨Nat.le_of_ble_eq_true rfl, Nat.le_of_ble_eq_true rfl⟩) hS (fun q _ h => hFc q h) hFc (fun r_17 u_17 t_17 H_17 L_17 ht_17 hvm_17 hw_17 hB_17 hz_17 hk_17 hS => ?_)
      obtain ⟨hP1, hD1⟩ := hB_17
      rw [ht_17] at hP1
      obtain ⟨hP, hD⟩ := va_join (wr := [((b 3), .inl (g 4, 8, .inr (.inr (.inr (.inr (fun i => if i < 8 then some (r1 i) else none)))))), ((b 1), .inl (g 0, 200, .inl (fun _ => 0))), ((b 2), .inl (g 0, 200, .inl (fun _ => 0))), ((u_15 0), .inl (g 0, 5, .inl (upd (upd (upd (upd (upd (fun _ => 0) (0 : Int32).toNatClampNeg 0) (1 : Int32).toNatClampNeg 1) (2 : Int32).toNatClampNeg 4) (3 : Int32).toNatClampNeg 0) (4 : Int32).toNatClampNeg 2))), ((u_15 2), .inr (1, [.int 0, .ref (g 10), .int 0])), ((b 0), .inr (15, [.int (cd true true true), .ref (b 1), .ref (b 2), .int 0, .ref (b 3), .ref (b 4), .ref (b 5), .null, .ref (b 6), .int 0, .int 0, .int 0, .int 0, .int 0])), ((r1 jx), .inl (g 0, 0, .inl (fun _ => 0))), ((b 5), .inl (g 0, 5, .inl stf))]) (w1 := [(q_13, .inr (14, [.ref (u_15 0), .int (nI jy), .int 0, .ref (u_15 1), .ref (u_15 2), .int 0, .int 0, .int 0, .int 0, .int 0, .int 0, .ref (b 0)])), ((u_15 1), .inr (1, [.int 1, .ref (u_15 3), .int 1])), ((u_15 3), .inl (g 5, 10, .inr (.inr (.inr (.inr (va_up (fun _ => none) 0 (some (u_15 4)))))))), ((u_15 4), .inr (1, [.int 0, .ref (g 10), .int 0])), ((u_17 0), .inl (g 0, 0, .inl (fun _ => 0)))]) hP hD [3, 6, 7, 8] [0, 1, 2, 4, 5, 9, 10, 11] rfl rfl (by decide) (by decide) hk_17 hFc hP1 hD1
      have hP : va_P (dC, dI) vwCl [((b 3), .inl (g 4, 8, .inr (.inr (.inr (.inr (fun i => if i < 8 then some (r1 i) else none)))))), ((b 1), .inl (g 0, 200, .inl (fun _ => 0))), ((b 2), .inl (g 0, 200, .inl (fun _ => 0))), ((u_15 0), .inl (g 0, 5, .inl (upd (upd (upd (upd (upd (fun _ => 0) (0 : Int32).toNatClampNeg 0) (1 : Int32).toNatClampNeg 1) (2 : Int32).toNatClampNeg 4) (3 : Int32).toNatClampNeg 0) (4 : Int32).toNatClampNeg 2))), ((u_15 2), .inr (1, [.int 0, .ref (g 10), .int 0])), ((b 0), .inr (15, [.int (cd true true true), .ref (b 1), .ref (b 2), .int 0, .ref (b 3), .ref (b 4), .ref (b 5), .null, .ref (b 6), .int 0, .int 0, .int 0, .int 0, .int 0])), ((r1 jx), .inl (g 0, 0, .inl (fun _ => 0))), ((b 5), .inl (g 0, 5, .inl stf)), (q_13, .inr (14, [.ref (u_15 0), .int (nI jy), .int 0, .ref (u_15 1), .ref (u_15 2), .int 0, .int 0, .int 0, .int 0, .int 0, .int 0, .ref (b 0)])), ((u_15 1), .inr (1, [.int 1, .ref (u_15 3), .int 1])), ((u_15 3), .inl (g 5, 10, .inr (.inr (.inr (.inr (va_up (fun _ => none) 0 (some (u_15 4)))))))), ((u_15 4), .inr (1, [.int 0, .ref (g 10), .int 0])), ((u_17 0), .inl (g 0, 0, .inl (fun _ => 0)))] H_17 := hP
      have hD : va_D A [((b 3), .inl (g 4, 8, .inr (.inr (.inr (.inr (fun i => if i < 8 then some (r1 i) else none)))))), ((b 1), .inl (g 0, 200, .inl (fun _ => 0))), ((b 2), .inl (g 0, 200, .inl (fun _ => 0))), ((u_15 0), .inl (g 0, 5, .inl (upd (upd (upd (upd (upd (fun _ => 0) (0 : Int32).toNatClampNeg 0) (1 : Int32).toNatClampNeg 1) (2 : Int32).toNatClampNeg 4) (3 : Int32).toNatClampNeg 0) (4 : Int32).toNatClampNeg 2))), ((u_15 2), .inr (1, [.int 0, .ref (g 10), .int 0])), ((b 0), .inr (15, [.int (cd true true true), .ref (b 1), .ref (b 2), .int 0, .ref (b 3), .ref (b 4), .ref (b 5), .null, .ref (b 6), .int 0, .int 0, .int 0, .int 0, .int 0])), ((r1 jx), .inl (g 0, 0, .inl (fun _ => 0))), ((b 5), .inl (g 0, 5, .inl stf)), (q_13, .inr (14, [.ref (u_15 0), .int (nI jy), .int 0, .ref (u_15 1), .ref (u_15 2), .int 0, .int 0, .int 0, .int 0, .int 0, .int 0, .ref (b 0)])), ((u_15 1), .inr (1, [.int 1, .ref (u_15 3), .int 1])), ((u_15 3), .inl (g 5, 10, .inr (.inr (.inr (.inr (va_up (fun _ => none) 0 (some (u_15 4)))))))), ((u_15 4), .inr (1, [.int 0, .ref (g 10), .int 0])), ((u_17 0), .inl (g 0, 0, .inl (fun _ => 0)))] := hD
      refine W.widen (k := 10) (n := 45) (by omega) (by omega) ?_
      obtain rfl : r_17 = some (u_17 0) := hw_17
      refine W.eq (g2 := F0 m 63 ls [.ref (u_17 0), .int (nI jy), .ref (b 3)]) rfl ?_
      refine va_astA hx hb hK (ao_3 hG) hP hD hS 0 12 rfl rfl (vp_in_nI hjy (by decide)) dX13_sort_63 (fun H_18 L_19 hP hD hS => ?_)
      have hP : va_P (dC, dI) vwCl [((b 3), .inl (g 4, 8, .inr (.inr (.inr (.inr (va_up (fun i => if i < 8 then some (r1 i) else none) (nI jy).toNatClampNeg (some (u_17 0)))))))), ((b 1), .inl (g 0, 200, .inl (fun _ => 0))), ((b 2), .inl (g 0, 200, .inl (fun _ => 0))), ((u_15 0), .inl (g 0, 5, .inl (upd (upd (upd (upd (upd (fun _ => 0) (0 : Int32).toNatClampNeg 0) (1 : Int32).toNatClampNeg 1) (2 : Int32).toNatClampNeg 4) (3 : Int32).toNatClampNeg 0) (4 : Int32).toNatClampNeg 2))), ((u_15 2), .inr (1, [.int 0, .ref (g 10), .int 0])), ((b 0), .inr (15, [.int (cd true true true), .ref (b 1), .ref (b 2), .int 0, .ref (b 3), .ref (b 4), .ref (b 5), .null, .ref (b 6), .int 0, .int 0, .int 0, .int 0, .int 0])), ((r1 jx), .inl (g 0, 0, .inl (fun _ => 0))), ((b 5), .inl (g 0, 5, .inl stf)), (q_13, .inr (14, [.ref (u_15 0), .int (nI jy), .int 0, .ref (u_15 1), .ref (u_15 2), .int 0, .int 0, .int 0, .int 0, .int 0, .int 0, .ref (b 0)])), ((u_15 1), .inr (1, [.int 1, .ref (u_15 3), .int 1])), ((u_15 3), .inl (g 5, 10, .inr (.inr (.inr (.inr (va_up (fun _ => none) 0 (some (u_15 4)))))))), ((u_15 4), .inr (1, [.int 0, .ref (g 10), .int 0])), ((u_17 0), .inl (g 0, 0, .inl (fun _ => 0)))] H_18 := hP
      have hD : va_D A [((b 3), .inl (g 4, 8, .inr (.inr (.inr (.inr (va_up (fun i => if i < 8 then some (r1 i) else none) (nI jy).toNatClampNeg (some (u_17 0)))))))), ((b 1), .inl (g 0, 200, .inl (fun _ => 0))), ((b 2), .inl (g 0, 200, .inl (fun _ => 0))), ((u_15 0), .inl (g 0, 5, .inl (upd (upd (upd (upd (upd (fun _ => 0) (0 : Int32).toNatClampNeg 0) (1 : Int32).toNatClampNeg 1) (2 : Int32).toNatClampNeg 4) (3 : Int32).toNatClampNeg 0) (4 : Int32).toNatClampNeg 2))), ((u_15 2), .inr (1, [.int 0, .ref (g 10), .int 0])), ((b 0), .inr (15, [.int (cd true true true), .ref (b 1), .ref (b 2), .int 0, .ref (b 3), .ref (b 4), .ref (b 5), .null, .ref (b 6), .int 0, .int 0, .int 0, .int 0, .int 0])), ((r1 jx), .inl (g 0, 0, .inl (fun _ => 0))), ((b 5), .inl (g 0, 5, .inl stf)), (q_13, .inr (14, [.ref (u_15 0), .int (nI jy), .int 0, .ref (u_15 1), .ref (u_15 2), .int 0, .int 0, .int 0, .int 0, .int 0, .int 0, .ref (b 0)])), ((u_15 1), .inr (1, [.int 1, .ref (u_15 3), .int 1])), ((u_15 3), .inl (g 5, 10, .inr (.inr (.inr (.inr (va_up (fun _ => none) 0 (some (u_15 4)))))))), ((u_15 4), .inr (1, [.int 0, .ref (g 10), .int 0])), ((u_17 0), .inl (g 0, 0, .inl (fun _ => 0)))] := hD
      refine lv_aload_n hx hb dX13_sort_64 rfl (lv_at hl 0 rfl) ?_
      refine va_getN (D := (dC, dI)) (ci := 14) (v := .int 0) (C := RX12) (T := TX12) (N := 12) hx hb hts hiX12 hown hK hP 8 rfl rfl 7 (by decide) (nf_64 hG) (fun _ h9 => h9) rfl dX13_sort_65 ?_
      refine W.widen (k := 40) (n := 200) (by omega) (by omega) ?_
      have hcd : (cd true true true) = (cd (TOKb (nI jx) && TOKb (nI jy)) true true) := by simp [cd, (TOK_j hjx rfl), (TOK_j hjy rfl)]
      have hP8 := hP.sub (ws' := [((b 0), .inr (15, [.int (cd true true true), .ref (b 1), .ref (b 2), .int 0, .ref (b 3), .ref (b 4), .ref (b 5), .null, .ref (b 6), .int 0, .int 0, .int 0, .int 0, .int 0]))]) [5] rfl
      rw [hcd] at hP8
      exact W.iret (v := 0) hx hb hr (fun t ht hW => ⟨⟨0, (), rfl, (fun h => by first | rfl | (exact absurd (cd_0.mp h) (by simp [(TOK_j hjx rfl), (TOK_j hjy rfl)]))), ⟨[.ref (b 1), .ref (b 2), .int 0, .ref (b 3), .ref (b 4), .ref (b 5), .null, .ref (b 6), .int 0, .int 0, .int 0, .int 0, .int 0], P_at ht hP8⟩⟩, hS.F ht⟩) hS.2.2 dX13_sort_68
theorem vin_r3 {x : Int32} (h : rngb x 0 3 = true) : vp_in x 4 := by
  obtain ⟨j, hj, rfl⟩ := rng_ex (n := 3) h rfl
  exact vp_in_nI (by omega) (by decide)
set_option maxHeartbeats 4000000 in
set_option maxRecDepth 100000 in
theorem c_X13_leastMoves (l : Launch) (dC : Nat → ClassId) (dI : Nat → Nat → Nat) (g : Nat → ClassId) (b : Nat → Nat) (r1 : Nat → Nat) (r2 : Nat → Nat) (x : Int32) (th : Int32) (sz : Nat) : Met l yX13_leastMoves wsX13_leastMoves ({ frames := 7, cells := 40, slots := 200, locals := 153 }) (va_Pc [.ref (b 0), .int x] (PG (dC, dI) g (modW b r1 r2 g th) sz)) (va_Qi (fun (r : Int32) (_ : Unit) => (cd (TOKb x) true true) = 0 → r = 0) (fun (_ : Unit) t => ∃ fs : List Value, va_P (dC, dI) vwCl [(b 0, .inr (15, .int (cd (TOKb x) true true) :: fs))] t.heap) (va_A (modW b r1 r2 g th) sz)) 40 200 (va_A (modW b r1 r2 g th) sz) := by
  refine Met.ofW (cc := cX13_leastMoves) (maxL := 5) (ret := (some .int)) (by decide) rfl ?_
  intro p e s m args below meth c s₁ B hml hv
  obtain ⟨rfl, hsz, hP, hK, hD0, hG⟩ := hv
  have hx := B.exec
  have hb := B.bytes
  have hr := B.returns
  have hts := atoms_spec (ws := wsX13_leastMoves) B.pre
  have hown : s.vm.findClass RX13 = some m.cls := findClass_of_methodNamed B.named
  have hlocks := B.notSynchronized
  subst hsz
  have hD := hD0.self (sz := s.heap.size)
  generalize hAe : va_A (modW b r1 r2 g th) s.heap.size = A at hD hG ⊢
  have hA : ∀ q : Nat, s.heap.size ≤ q → A q := fun q h => by rw [← hAe]; exact Or.inr h
  have hS : va_S A s.heap s.heap [] := va_S.rf
  have hl := lv_entry ([.ref (b 0), .int x]) (n := 5) (Nat.le_of_ble_eq_true rfl)
  rw [lg_entry_eq]
  generalize (lg_sl ([.ref (b 0), .int x]) ++ List.replicate (5 - (lg_sl ([.ref (b 0), .int x])).length) Slot.unset).toArray = ls at hl ⊢
  have hl : lv_has ls 5 [(0, .ref (b 0)), (1, .int x)] := hl
  have hnaint := hts (Cond.arrayClass (newarray.typeOf .int)) (by decide +kernel)
  have hf35 := hts (Cond.fieldLink RX13 35 "RunmergeOfficeModel" "settings" "[I") (by decide +kernel)
  have hiX13 : ∀ w ∈ u_ws RX13 TX13 14, w ∈ wsX13_leastMoves := by decide +kernel
  have hcl147 := hts (Cond.classLink RX13 147 RX12) (by decide +kernel)
  have hinX12 := hts (Cond.instantiable RX12 12) (by decide +kernel)
  have hiniX12 := hts (Cond.initialized RX12) (by decide +kernel)
  have hiX12 : ∀ w ∈ u_ws RX12 TX12 12, w ∈ wsX13_leastMoves := by decide +kernel
  have hf29 := hts (Cond.fieldLink RX13 29 "RunmergeOfficeModel" "tapes" "[[I") (by decide +kernel)
  have himX12_init := hts (Cond.instanceMethod yX12_init) (by decide +kernel)
  have hml149 := hts (Cond.methodLink RX13 149 yX12_init) (by decide +kernel)
  refine lv_aload_n hx hb dX13_leastMoves_0 rfl (lv_at hl 0 rfl) ?_
  refine lv_iload_n hx hb dX13_leastMoves_1 rfl (lv_at hl 1 rfl) ?_
  refine va_calli (va_runS (As := [.int x]) (rest := [.ref (b 0)]) ⟨hx, hb, hml, hown, hts⟩ (c_X13_isTape l dC dI g (modW b r1 r2 g th) x   s.heap.size) (va_cwS 1 hts gX13_leastMoves_X13_isTape rfl rfl rfl (by decide +kernel) ⟨Nat.le_of_ble_eq_true rfl, Nat.le_of_ble_eq_true rfl⟩) ⟨PG_blind, PG_call hK hG hS hP hD (A_all hD hA hS.1)⟩ rfl rfl hl.1 rfl (lv_room (Nat.le_of_ble_eq_true rfl)) dX13_leastMoves_2 ⟨Nat.le_of_ble_eq_true rfl, Nat.le_of_ble_eq_true rfl⟩) hS (fun q _ h => (A_all hD hA hS.1) q h) (A_all hD hA hS.1) (fun r_1 u_1 t_1 H_1 L_1 ht_1 hvm_1 hw_1 hB_1 hz_1 hk_1 hS => ?_)
  replace hB_1 := (show va_P (dC, dI) vwCl (modW b r1 r2 g th) t_1.heap from hB_1)
  rw [ht_1] at hB_1
  have hP := hB_1
  obtain rfl : r_1 = b2i (TOKb x) := hw_1
  refine lv_iconst (v := 1) hx hb dX13_leastMoves_5 (by decide) ?_
  refine lv_iconst (v := 1) hx hb dX13_leastMoves_6 (by decide) ?_
  refine va_calli (va_runV (As := [.int (b2i (TOKb x)), .int 1, .int 1]) (rest := []) ⟨hx, hb, hml, hown, hts⟩ (c_X13_passes l dC dI g b r1 r2 th (TOKb x) true true  H_1.size) (cwV 3 hts gX13_leastMoves_X13_passes rfl rfl rfl (by decide +kernel) ⟨Nat.le_of_ble_eq_true rfl, Nat.le_of_ble_eq_true rfl⟩) ⟨PG_blind, va_recv hK hP (ci := 15) (q0 := 0) rfl (m_0 b r1 r2 g th), PG_call hK hG hS hP hD (A_all hD hA hS.1)⟩ rfl rfl hl.1 rfl (lv_room (Nat.le_of_ble_eq_true rfl)) dX13_leastMoves_7 ⟨Nat.le_of_ble_eq_true rfl, Nat.le_of_ble_eq_true rfl⟩) hS (fun q _ h => (A_all hD hA hS.1) q h) (A_all hD hA hS.1) (fun r_2 u_2 t_2 H_2 L_2 ht_2 hvm_2 hw_2 hB_2 hz_2 hk_2 hS => ?_)
  rw [ht_2] at hB_2
  have hP : va_P (dC, dI) vwCl (modW b r1 r2 g (cd (TOKb x) true true)) H_2 := hB_2
  have hD : va_D A (modW b r1 r2 g (cd (TOKb x) true true)) := va_D_th hD
  obtain rfl : r_2 = b2i (TOKb x) := hw_2.trans (by simp)
  refine lv_if_ne (tgt := 15) hx hb dX13_leastMoves_10 (by decide) (fun c_3 => ?_) (fun c_3 => ?_)
  · have hB_4 : (TOKb x) = true := b2i_1 c_3
    obtain ⟨jx, hjx, rfl⟩ := TOK_ex hB_4
    obtain ⟨hP, hD⟩ := mod_x b r1 r2 g (cd (TOKb (nI jx)) true true) jx hjx hP hD
    have hP : va_P (dC, dI) vwCl [((b 0), .inr (15, [.int (cd (TOKb (nI jx)) true true), .ref (b 1), .ref (b 2), .int 0, .ref (b 3), .ref (b 4), .ref (b 5), .null, .ref (b 6), .int 0, .int 0, .int 0, .int 0, .int 0])), ((b 3), .inl (g 4, 8, .inr (.inr (.inr (.inr (fun i => if i < 8 then some (r1 i) else none)))))), ((r1 jx), .inl (g 0, 0, .inl (fun _ => 0))), ((b 1), .inl (g 0, 200, .inl (fun _ => 0))), ((b 2), .inl (g 0, 200, .inl (fun _ => 0))), ((b 5), .inl (g 0, 5, .inl stf))] H_2 := hP
    have hD : va_D A [((b 0), .inr (15, [.int (cd (TOKb (nI jx)) true true), .ref (b 1), .ref (b 2), .int 0, .ref (b 3), .ref (b 4), .ref (b 5), .null, .ref (b 6), .int 0, .int 0, .int 0, .int 0, .int 0])), ((b 3), .inl (g 4, 8, .inr (.inr (.inr (.inr (fun i => if i < 8 then some (r1 i) else none)))))), ((r1 jx), .inl (g 0, 0, .inl (fun _ => 0))), ((b 1), .inl (g 0, 200, .inl (fun _ => 0))), ((b 2), .inl (g 0, 200, .inl (fun _ => 0))), ((b 5), .inl (g 0, 5, .inl stf))] := hD
    refine lv_iconst (v := 5) hx hb dX13_leastMoves_15 (by decide) ?_
    refine va_newa (atype := .int) (a0 := (5, .inl (fun _ => 0))) hx hb hnaint rfl hK hP hD hS hA (fun _ => rfl) (by decide) (N' := 5) (by decide) (Nat.le_of_ble_eq_true rfl) (Nat.le_of_ble_eq_true rfl) (Nat.le_of_ble_eq_true rfl) dX13_leastMoves_16 (fun q_5 cA_7 H_6 hK9 hP hD hS => ?_)
    obtain rfl : g 0 = cA_7 := K_one hK9 0 6 rfl rfl
    have hP : va_P (dC, dI) vwCl [((b 0), .inr (15, [.int (cd (TOKb (nI jx)) true true), .ref (b 1), .ref (b 2), .int 0, .ref (b 3), .ref (b 4), .ref (b 5), .null, .ref (b 6), .int 0, .int 0, .int 0, .int 0, .int 0])), ((b 3), .inl (g 4, 8, .inr (.inr (.inr (.inr (fun i => if i < 8 then some (r1 i) else none)))))), ((r1 jx), .inl (g 0, 0, .inl (fun _ => 0))), ((b 1), .inl (g 0, 200, .inl (fun _ => 0))), ((b 2), .inl (g 0, 200, .inl (fun _ => 0))), ((b 5), .inl (g 0, 5, .inl stf)), (q_5, .inl (g 0, 5, .inl (fun _ => 0)))] H_6 := hP
    have hD : va_D A [((b 0), .inr (15, [.int (cd (TOKb (nI jx)) true true), .ref (b 1), .ref (b 2), .int 0, .ref (b 3), .ref (b 4), .ref (b 5), .null, .ref (b 6), .int 0, .int 0, .int 0, .int 0, .int 0])), ((b 3), .inl (g 4, 8, .inr (.inr (.inr (.inr (fun i => if i < 8 then some (r1 i) else none)))))), ((r1 jx), .inl (g 0, 0, .inl (fun _ => 0))), ((b 1), .inl (g 0, 200, .inl (fun _ => 0))), ((b 2), .inl (g 0, 200, .inl (fun _ => 0))), ((b 5), .inl (g 0, 5, .inl stf)), (q_5, .inl (g 0, 5, .inl (fun _ => 0)))] := hD
    refine W.widen (k := 1) (n := 5) (by omega) (by omega) ?_
    refine lv_dup hx hb dX13_leastMoves_18 rfl ?_
    refine lv_iconst (v := 0) hx hb dX13_leastMoves_19 (by decide) ?_
    refine lv_aload_n hx hb dX13_leastMoves_20 rfl (lv_at hl 0 rfl) ?_
    refine va_get (D := (dC, dI)) (ci := 15) (v := .ref (b 5)) (C := RX13) (T := TX13) (N := 14) hx hb hts hiX13 hown hK hP 0 rfl rfl 6 (by decide) hf35 (fun _ h9 => h9) rfl dX13_leastMoves_21 ?_
    refine lv_iconst (v := 0) hx hb dX13_leastMoves_24 (by decide) ?_
    refine va_iald hx hb hK hP 5 0 rfl rfl (by unfold vp_in; decide) dX13_leastMoves_25 ?_
    refine lv_topi (fun x_8 ex_8 => ?_)
    obtain rfl : x_8 = 0 := ex_8.trans (by decide)
    refine va_iast hx hb hK hP hD hS 6 0 rfl rfl (by unfold vp_in; decide) dX13_leastMoves_26 (fun H_9 L_10 hP hD hS => ?_)
    have hP : va_P (dC, dI) vwCl [((b 0), .inr (15, [.int (cd (TOKb (nI jx)) true true), .ref (b 1), .ref (b 2), .int 0, .ref (b 3), .ref (b 4), .ref (b 5), .null, .ref (b 6), .int 0, .int 0, .int 0, .int 0, .int 0])), ((b 3), .inl (g 4, 8, .inr (.inr (.inr (.inr (fun i => if i < 8 then some (r1 i) else none)))))), ((r1 jx), .inl (g 0, 0, .inl (fun _ => 0))), ((b 1), .inl (g 0, 200, .inl (fun _ => 0))), ((b 2), .inl (g 0, 200, .inl (fun _ => 0))), ((b 5), .inl (g 0, 5, .inl stf)), (q_5, .inl (g 0, 5, .inl (upd (fun _ => 0) (0 : Int32).toNatClampNeg 0)))] H_9 := hP
    have hD : va_D A [((b 0), .inr (15, [.int (cd (TOKb (nI jx)) true true), .ref (b 1), .ref (b 2), .int 0, .ref (b 3), .ref (b 4), .ref (b 5), .null, .ref (b 6), .int 0, .int 0, .int 0, .int 0, .int 0])), ((b 3), .inl (g 4, 8, .inr (.inr (.inr (.inr (fun i => if i < 8 then some (r1 i) else none)))))), ((r1 jx), .inl (g 0, 0, .inl (fun _ => 0))), ((b 1), .inl (g 0, 200, .inl (fun _ => 0))), ((b 2), .inl (g 0, 200, .inl (fun _ => 0))), ((b 5), .inl (g 0, 5, .inl stf)), (q_5, .inl (g 0, 5, .inl (upd (fun _ => 0) (0 : Int32).toNatClampNeg 0)))] := hD
    refine lv_dup hx hb dX13_leastMoves_27 rfl ?_
    refine lv_iconst (v := 1) hx hb dX13_leastMoves_28 (by decide) ?_
    refine lv_aload_n hx hb dX13_leastMoves_29 rfl (lv_at hl 0 rfl) ?_
    refine va_get (D := (dC, dI)) (ci := 15) (v := .ref (b 5)) (C := RX13) (T := TX13) (N := 14) hx hb hts hiX13 hown hK hP 0 rfl rfl 6 (by decide) hf35 (fun _ h9 => h9) rfl dX13_leastMoves_30 ?_
    refine lv_iconst (v := 1) hx hb dX13_leastMoves_33 (by decide) ?_
    refine va_iald hx hb hK hP 5 0 rfl rfl (by unfold vp_in; decide) dX13_leastMoves_34 ?_
    refine lv_topi (fun x_11 ex_11 => ?_)
    obtain rfl : x_11 = 1 := ex_11.trans (by decide)
    refine va_iast hx hb hK hP hD hS 6 0 rfl rfl (by unfold vp_in; decide) dX13_leastMoves_35 (fun H_12 L_13 hP hD hS => ?_)
    have hP : va_P (dC, dI) vwCl [((b 0), .inr (15, [.int (cd (TOKb (nI jx)) true true), .ref (b 1), .ref (b 2), .int 0, .ref (b 3), .ref (b 4), .ref (b 5), .null, .ref (b 6), .int 0, .int 0, .int 0, .int 0, .int 0])), ((b 3), .inl (g 4, 8, .inr (.inr (.inr (.inr (fun i => if i < 8 then some (r1 i) else none)))))), ((r1 jx), .inl (g 0, 0, .inl (fun _ => 0))), ((b 1), .inl (g 0, 200, .inl (fun _ => 0))), ((b 2), .inl (g 0, 200, .inl (fun _ => 0))), ((b 5), .inl (g 0, 5, .inl stf)), (q_5, .inl (g 0, 5, .inl (upd (upd (fun _ => 0) (0 : Int32).toNatClampNeg 0) (1 : Int32).toNatClampNeg 1)))] H_12 := hP
    have hD : va_D A [((b 0), .inr (15, [.int (cd (TOKb (nI jx)) true true), .ref (b 1), .ref (b 2), .int 0, .ref (b 3), .ref (b 4), .ref (b 5), .null, .ref (b 6), .int 0, .int 0, .int 0, .int 0, .int 0])), ((b 3), .inl (g 4, 8, .inr (.inr (.inr (.inr (fun i => if i < 8 then some (r1 i) else none)))))), ((r1 jx), .inl (g 0, 0, .inl (fun _ => 0))), ((b 1), .inl (g 0, 200, .inl (fun _ => 0))), ((b 2), .inl (g 0, 200, .inl (fun _ => 0))), ((b 5), .inl (g 0, 5, .inl stf)), (q_5, .inl (g 0, 5, .inl (upd (upd (fun _ => 0) (0 : Int32).toNatClampNeg 0) (1 : Int32).toNatClampNeg 1)))] := hD
    refine lv_dup hx hb dX13_leastMoves_36 rfl ?_
    refine lv_iconst (v := 2) hx hb dX13_leastMoves_37 (by decide) ?_
    refine lv_aload_n hx hb dX13_leastMoves_38 rfl (lv_at hl 0 rfl) ?_
    refine va_get (D := (dC, dI)) (ci := 15) (v := .ref (b 5)) (C := RX13) (T := TX13) (N := 14) hx hb hts hiX13 hown hK hP 0 rfl rfl 6 (by decide) hf35 (fun _ h9 => h9) rfl dX13_leastMoves_39 ?_
    refine lv_iconst (v := 2) hx hb dX13_leastMoves_42 (by decide) ?_
    refine va_iald hx hb hK hP 5 0 rfl rfl (by unfold vp_in; decide) dX13_leastMoves_43 ?_
    refine lv_topi (fun x_14 ex_14 => ?_)
    obtain rfl : x_14 = 4 := ex_14.trans (by decide)
    refine va_iast hx hb hK hP hD hS 6 0 rfl rfl (by unfold vp_in; decide) dX13_leastMoves_44 (fun H_15 L_16 hP hD hS => ?_)
    have hP : va_P (dC, dI) vwCl [((b 0), .inr (15, [.int (cd (TOKb (nI jx)) true true), .ref (b 1), .ref (b 2), .int 0, .ref (b 3), .ref (b 4), .ref (b 5), .null, .ref (b 6), .int 0, .int 0, .int 0, .int 0, .int 0])), ((b 3), .inl (g 4, 8, .inr (.inr (.inr (.inr (fun i => if i < 8 then some (r1 i) else none)))))), ((r1 jx), .inl (g 0, 0, .inl (fun _ => 0))), ((b 1), .inl (g 0, 200, .inl (fun _ => 0))), ((b 2), .inl (g 0, 200, .inl (fun _ => 0))), ((b 5), .inl (g 0, 5, .inl stf)), (q_5, .inl (g 0, 5, .inl (upd (upd (upd (fun _ => 0) (0 : Int32).toNatClampNeg 0) (1 : Int32).toNatClampNeg 1) (2 : Int32).toNatClampNeg 4)))] H_15 := hP
    have hD : va_D A [((b 0), .inr (15, [.int (cd (TOKb (nI jx)) true true), .ref (b 1), .ref (b 2), .int 0, .ref (b 3), .ref (b 4), .ref (b 5), .null, .ref (b 6), .int 0, .int 0, .int 0, .int 0, .int 0])), ((b 3), .inl (g 4, 8, .inr (.inr (.inr (.inr (fun i => if i < 8 then some (r1 i) else none)))))), ((r1 jx), .inl (g 0, 0, .inl (fun _ => 0))), ((b 1), .inl (g 0, 200, .inl (fun _ => 0))), ((b 2), .inl (g 0, 200, .inl (fun _ => 0))), ((b 5), .inl (g 0, 5, .inl stf)), (q_5, .inl (g 0, 5, .inl (upd (upd (upd (fun _ => 0) (0 : Int32).toNatClampNeg 0) (1 : Int32).toNatClampNeg 1) (2 : Int32).toNatClampNeg 4)))] := hD
    refine lv_dup hx hb dX13_leastMoves_45 rfl ?_
    refine lv_iconst (v := 3) hx hb dX13_leastMoves_46 (by decide) ?_
    refine lv_iconst (v := 1) hx hb dX13_leastMoves_47 (by decide) ?_
    refine va_iast hx hb hK hP hD hS 6 0 rfl rfl (by unfold vp_in; decide) dX13_leastMoves_48 (fun H_17 L_18 hP hD hS => ?_)
    have hP : va_P (dC, dI) vwCl [((b 0), .inr (15, [.int (cd (TOKb (nI jx)) true true), .ref (b 1), .ref (b 2), .int 0, .ref (b 3), .ref (b 4), .ref (b 5), .null, .ref (b 6), .int 0, .int 0, .int 0, .int 0, .int 0])), ((b 3), .inl (g 4, 8, .inr (.inr (.inr (.inr (fun i => if i < 8 then some (r1 i) else none)))))), ((r1 jx), .inl (g 0, 0, .inl (fun _ => 0))), ((b 1), .inl (g 0, 200, .inl (fun _ => 0))), ((b 2), .inl (g 0, 200, .inl (fun _ => 0))), ((b 5), .inl (g 0, 5, .inl stf)), (q_5, .inl (g 0, 5, .inl (upd (upd (upd (upd (fun _ => 0) (0 : Int32).toNatClampNeg 0) (1 : Int32).toNatClampNeg 1) (2 : Int32).toNatClampNeg 4) (3 : Int32).toNatClampNeg 1)))] H_17 := hP
    have hD : va_D A [((b 0), .inr (15, [.int (cd (TOKb (nI jx)) true true), .ref (b 1), .ref (b 2), .int 0, .ref (b 3), .ref (b 4), .ref (b 5), .null, .ref (b 6), .int 0, .int 0, .int 0, .int 0, .int 0])), ((b 3), .inl (g 4, 8, .inr (.inr (.inr (.inr (fun i => if i < 8 then some (r1 i) else none)))))), ((r1 jx), .inl (g 0, 0, .inl (fun _ => 0))), ((b 1), .inl (g 0, 200, .inl (fun _ => 0))), ((b 2), .inl (g 0, 200, .inl (fun _ => 0))), ((b 5), .inl (g 0, 5, .inl stf)), (q_5, .inl (g 0, 5, .inl (upd (upd (upd (upd (fun _ => 0) (0 : Int32).toNatClampNeg 0) (1 : Int32).toNatClampNeg 1) (2 : Int32).toNatClampNeg 4) (3 : Int32).toNatClampNeg 1)))] := hD
    refine lv_dup hx hb dX13_leastMoves_49 rfl ?_
    refine lv_iconst (v := 4) hx hb dX13_leastMoves_50 (by decide) ?_
    refine lv_iconst (v := 2) hx hb dX13_leastMoves_51 (by decide) ?_
    refine va_iast hx hb hK hP hD hS 6 0 rfl rfl (by unfold vp_in; decide) dX13_leastMoves_52 (fun H_19 L_20 hP hD hS => ?_)
    have hP : va_P (dC, dI) vwCl [((b 0), .inr (15, [.int (cd (TOKb (nI jx)) true true), .ref (b 1), .ref (b 2), .int 0, .ref (b 3), .ref (b 4), .ref (b 5), .null, .ref (b 6), .int 0, .int 0, .int 0, .int 0, .int 0])), ((b 3), .inl (g 4, 8, .inr (.inr (.inr (.inr (fun i => if i < 8 then some (r1 i) else none)))))), ((r1 jx), .inl (g 0, 0, .inl (fun _ => 0))), ((b 1), .inl (g 0, 200, .inl (fun _ => 0))), ((b 2), .inl (g 0, 200, .inl (fun _ => 0))), ((b 5), .inl (g 0, 5, .inl stf)), (q_5, .inl (g 0, 5, .inl (upd (upd (upd (upd (upd (fun _ => 0) (0 : Int32).toNatClampNeg 0) (1 : Int32).toNatClampNeg 1) (2 : Int32).toNatClampNeg 4) (3 : Int32).toNatClampNeg 1) (4 : Int32).toNatClampNeg 2)))] H_19 := hP
    have hD : va_D A [((b 0), .inr (15, [.int (cd (TOKb (nI jx)) true true), .ref (b 1), .ref (b 2), .int 0, .ref (b 3), .ref (b 4), .ref (b 5), .null, .ref (b 6), .int 0, .int 0, .int 0, .int 0, .int 0])), ((b 3), .inl (g 4, 8, .inr (.inr (.inr (.inr (fun i => if i < 8 then some (r1 i) else none)))))), ((r1 jx), .inl (g 0, 0, .inl (fun _ => 0))), ((b 1), .inl (g 0, 200, .inl (fun _ => 0))), ((b 2), .inl (g 0, 200, .inl (fun _ => 0))), ((b 5), .inl (g 0, 5, .inl stf)), (q_5, .inl (g 0, 5, .inl (upd (upd (upd (upd (upd (fun _ => 0) (0 : Int32).toNatClampNeg 0) (1 : Int32).toNatClampNeg 1) (2 : Int32).toNatClampNeg 4) (3 : Int32).toNatClampNeg 1) (4 : Int32).toNatClampNeg 2)))] := hD
    refine lv_astore_n (lv' := [(2, .ref q_5), (0, .ref (b 0)), (1, .int (nI jx))]) hx hb dX13_leastMoves_53 rfl hl (by decide) rfl (fun ls hl => ?_)
    refine va_new (ci := 14) (fs := [.null, .int 0, .int 0, .null, .null, .int 0, .int 0, .int 0, .int 0, .int 0, .int 0, .null]) (C := RX12) (T := TX12) (N := 12) hx hb hts hiX12 tyX12 tyX12_ok hown hcl147 hinX12 hiniX12 hK hP hD hS hA rfl (fun j hj => by rcases (show j = 0 ∨ j = 1 ∨ j = 2 ∨ j = 3 ∨ j = 4 ∨ j = 5 ∨ j = 6 ∨ j = 7 ∨ j = 8 ∨ j = 9 ∨ j = 10 ∨ j = 11 by omega) with rfl | rfl | rfl | rfl | rfl | rfl | rfl | rfl | rfl | rfl | rfl | rfl <;> rfl) (Nat.le_of_ble_eq_true rfl) (Nat.le_of_ble_eq_true rfl) dX13_leastMoves_54 (fun q_21 H_22 hP hD hS => ?_)
    have hP : va_P (dC, dI) vwCl [((b 0), .inr (15, [.int (cd (TOKb (nI jx)) true true), .ref (b 1), .ref (b 2), .int 0, .ref (b 3), .ref (b 4), .ref (b 5), .null, .ref (b 6), .int 0, .int 0, .int 0, .int 0, .int 0])), ((b 3), .inl (g 4, 8, .inr (.inr (.inr (.inr (fun i => if i < 8 then some (r1 i) else none)))))), ((r1 jx), .inl (g 0, 0, .inl (fun _ => 0))), ((b 1), .inl (g 0, 200, .inl (fun _ => 0))), ((b 2), .inl (g 0, 200, .inl (fun _ => 0))), ((b 5), .inl (g 0, 5, .inl stf)), (q_5, .inl (g 0, 5, .inl (upd (upd (upd (upd (upd (fun _ => 0) (0 : Int32).toNatClampNeg 0) (1 : Int32).toNatClampNeg 1) (2 : Int32).toNatClampNeg 4) (3 : Int32).toNatClampNeg 1) (4 : Int32).toNatClampNeg 2))), (q_21, .inr (14, [.null, .int 0, .int 0, .null, .null, .int 0, .int 0, .int 0, .int 0, .int 0, .int 0, .null]))] H_22 := hP
    have hD : va_D A [((b 0), .inr (15, [.int (cd (TOKb (nI jx)) true true), .ref (b 1), .ref (b 2), .int 0, .ref (b 3), .ref (b 4), .ref (b 5), .null, .ref (b 6), .int 0, .int 0, .int 0, .int 0, .int 0])), ((b 3), .inl (g 4, 8, .inr (.inr (.inr (.inr (fun i => if i < 8 then some (r1 i) else none)))))), ((r1 jx), .inl (g 0, 0, .inl (fun _ => 0))), ((b 1), .inl (g 0, 200, .inl (fun _ => 0))), ((b 2), .inl (g 0, 200, .inl (fun _ => 0))), ((b 5), .inl (g 0, 5, .inl stf)), (q_5, .inl (g 0, 5, .inl (upd (upd (upd (upd (upd (fun _ => 0) (0 : Int32).toNatClampNeg 0) (1 : Int32).toNatClampNeg 1) (2 : Int32).toNatClampNeg 4) (3 : Int32).toNatClampNeg 1) (4 : Int32).toNatClampNeg 2))), (q_21, .inr (14, [.null, .int 0, .int 0, .null, .null, .int 0, .int 0, .int 0, .int 0, .int 0, .int 0, .null]))] := hD
    refine W.widen (k := 2) (n := 17) (by omega) (by omega) ?_
    refine lv_dup hx hb dX13_leastMoves_57 rfl ?_
    refine lv_aload_n hx hb dX13_leastMoves_58 rfl (lv_at hl 1 rfl) ?_
    refine lv_aload_n hx hb dX13_leastMoves_59 rfl (lv_at hl 1 rfl) ?_
    refine va_get (D := (dC, dI)) (ci := 15) (v := .ref (b 3)) (C := RX13) (T := TX13) (N := 14) hx hb hts hiX13 hown hK hP 0 rfl rfl 4 (by decide) hf29 (fun _ h9 => h9) rfl dX13_leastMoves_60 ?_
    refine lv_iload_n hx hb dX13_leastMoves_63 rfl (lv_at hl 2 rfl) ?_
    refine va_aldA hx hb hK hP 1 rfl (vp_in_nI hjx (by decide)) dX13_leastMoves_64 ?_
    refine W.eq (g2 := F0 m 65 ls [.ref (r1 jx), .ref (b 0), .ref q_21, .ref q_21]) (by rw [nI_clamp (show jx < 2 ^ 31 by omega)]; simp only [if_pos hjx]; rfl) ?_
    refine lv_iconst (v := 0) hx hb dX13_leastMoves_65 (by decide) ?_
    refine lv_aload_n hx hb dX13_leastMoves_66 rfl (lv_at hl 0 rfl) ?_
    have hPc := hP.sub (ws' := [(q_21, .inr (14, [.null, .int 0, .int 0, .null, .null, .int 0, .int 0, .int 0, .int 0, .int 0, .int 0, .null])), ((b 0), .inr (15, [.int (cd (TOKb (nI jx)) true true), .ref (b 1), .ref (b 2), .int 0, .ref (b 3), .ref (b 4), .ref (b 5), .null, .ref (b 6), .int 0, .int 0, .int 0, .int 0, .int 0])), ((r1 jx), .inl (g 0, 0, .inl (fun _ => 0))), (q_5, .inl (g 0, 5, .inl (upd (upd (upd (upd (upd (fun _ => 0) (0 : Int32).toNatClampNeg 0) (1 : Int32).toNatClampNeg 1) (2 : Int32).toNatClampNeg 4) (3 : Int32).toNatClampNeg 1) (4 : Int32).toNatClampNeg 2)))]) [7, 0, 2, 6] rfl
    have hDc := hD.sub (ws' := [(q_21, .inr (14, [.null, .int 0, .int 0, .null, .null, .int 0, .int 0, .int 0, .int 0, .int 0, .int 0, .null])), ((b 0), .inr (15, [.int (cd (TOKb (nI jx)) true true), .ref (b 1), .ref (b 2), .int 0, .ref (b 3), .ref (b 4), .ref (b 5), .null, .ref (b 6), .int 0, .int 0, .int 0, .int 0, .int 0])), ((r1 jx), .inl (g 0, 0, .inl (fun _ => 0))), (q_5, .inl (g 0, 5, .inl (upd (upd (upd (upd (upd (fun _ => 0) (0 : Int32).toNatClampNeg 0) (1 : Int32).toNatClampNeg 1) (2 : Int32).toNatClampNeg 4) (3 : Int32).toNatClampNeg 1) (4 : Int32).toNatClampNeg 2)))]) [7, 0, 2, 6] (by decide) rfl
    have hFc := va_free (wc := [(q_21, .inr (14, [.null, .int 0, .int 0, .null, .null, .int 0, .int 0, .int 0, .int 0, .int 0, .int 0, .null])), ((b 0), .inr (15, [.int (cd (TOKb (nI jx)) true true), .ref (b 1), .ref (b 2), .int 0, .ref (b 3), .ref (b 4), .ref (b 5), .null, .ref (b 6), .int 0, .int 0, .int 0, .int 0, .int 0])), ((r1 jx), .inl (g 0, 0, .inl (fun _ => 0))), (q_5, .inl (g 0, 5, .inl (upd (upd (upd (upd (upd (fun _ => 0) (0 : Int32).toNatClampNeg 0) (1 : Int32).toNatClampNeg 1) (2 : Int32).toNatClampNeg 4) (3 : Int32).toNatClampNeg 1) (4 : Int32).toNatClampNeg 2)))]) hD hS hA [7, 0, 2, 6] rfl
    refine va_callv (va_runI (As := [.ref (b 0), .ref (r1 jx), .int 0, .ref q_5]) (rest := [.ref q_21]) ⟨hx, hb, hml, hown, hts⟩ (c_X12_init_11 l dC dI g q_21 (b 0) (r1 jx) q_5 0 (fun _ => 0) (upd (upd (upd (upd (upd (fun _ => 0) (0 : Int32).toNatClampNeg 0) (1 : Int32).toNatClampNeg 1) (2 : Int32).toNatClampNeg 4) (3 : Int32).toNatClampNeg 1) (4 : Int32).toNatClampNeg 2) (cd (TOKb (nI jx)) true true) (b 1) (b 2) 0 (b 3) (b 4) (b 5) none (b 6) 0 0 0 0 0 (by decide) (by decide) (by decide) (by decide) (by decide) H_22.size) (cwI 4 hts gX13_leastMoves_X12_init rfl rfl rfl hiniX12 hml149 himX12_init rfl (by decide +kernel) ⟨Nat.le_of_ble_eq_true rfl, Nat.le_of_ble_eq_true rfl⟩) ⟨PG_blind, PG_call hK hG hS hPc hDc hFc⟩ rfl rfl hl.1 rfl (lv_room (Nat.le_of_ble_eq_true rfl)) dX13_leastMoves_67 ⟨Nat.le_of_ble_eq_true rfl, Nat.le_of_ble_eq_true rfl⟩) hS (fun q _ h => hFc q h) hFc (fun u_23 t_23 H_23 L_23 ht_23 hvm_23 hw_23 hB_23 hz_23 hk_23 hS => ?_)
    obtain ⟨hP1, hD1⟩ := hB_23
    rw [ht_23] at hP1
    obtain ⟨hP, hD⟩ := va_join (wr := [((b 3), .inl (g 4, 8, .inr (.inr (.inr (.inr (fun i => if i < 8 then some (r1 i) else none)))))), ((b 1), .inl (g 0, 200, .inl (fun _ => 0))), ((b 2), .inl (g 0, 200, .inl (fun _ => 0))), ((b 5), .inl (g 0, 5, .inl stf))]) (w1 := [(q_21, .inr (14, [.ref (u_23 0), .int 0, .int 0, .ref (u_23 1), .ref (u_23 2), .int 0, .int 0, .int 0, .int 0, .int 0, .int 0, .ref (b 0)])), ((u_23 0), .inl (g 0, 5, .inl (upd (upd (upd (upd (upd (fun _ => 0) (0 : Int32).toNatClampNeg 0) (1 : Int32).toNatClampNeg 1) (2 : Int32).toNatClampNeg 4) (3 : Int32).toNatClampNeg 1) (4 : Int32).toNatClampNeg 2))), ((u_23 2), .inr (1, [.int 0, .ref (g 10), .int 0])), ((u_23 1), .inr (1, [.int 1, .ref (u_23 3), .int 1])), ((u_23 3), .inl (g 5, 10, .inr (.inr (.inr (.inr (va_up (fun _ => none) 0 (some (u_23 4)))))))), ((u_23 4), .inr (1, [.int 0, .ref (g 10), .int 0])), ((b 0), .inr (15, [.int (cd (TOKb (nI jx)) true true), .ref (b 1), .ref (b 2), .int 0, .ref (b 3), .ref (b 4), .ref (b 5), .null, .ref (b 6), .int 0, .int 0, .int 0, .int 0, .int 0])), ((r1 jx), .inl (g 0, 0, .inl (fun _ => 0))), (q_5, .inl (g 0, 5, .inl (upd (upd (upd (upd (upd (fun _ => 0) (0 : Int32).toNatClampNeg 0) (1 : Int32).toNatClampNeg 1) (2 : Int32).toNatClampNeg 4) (3 : Int32).toNatClampNeg 1) (4 : Int32).toNatClampNeg 2)))]) hP hD [7, 0, 2, 6] [1, 3, 4, 5] rfl rfl (by decide) (by decide) hk_23 hFc hP1 hD1
    have hP : va_P (dC, dI) vwCl [((b 3), .inl (g 4, 8, .inr (.inr (.inr (.inr (fun i => if i < 8 then some (r1 i) else none)))))), ((b 1), .inl (g 0, 200, .inl (fun _ => 0))), ((b 2), .inl (g 0, 200, .inl (fun _ => 0))), ((b 5), .inl (g 0, 5, .inl stf)), (q_21, .inr (14, [.ref (u_23 0), .int 0, .int 0, .ref (u_23 1), .ref (u_23 2), .int 0, .int 0, .int 0, .int 0, .int 0, .int 0, .ref (b 0)])), ((u_23 0), .inl (g 0, 5, .inl (upd (upd (upd (upd (upd (fun _ => 0) (0 : Int32).toNatClampNeg 0) (1 : Int32).toNatClampNeg 1) (2 : Int32).toNatClampNeg 4) (3 : Int32).toNatClampNeg 1) (4 : Int32).toNatClampNeg 2))), ((u_23 2), .inr (1, [.int 0, .ref (g 10), .int 0])), ((u_23 1), .inr (1, [.int 1, .ref (u_23 3), .int 1])), ((u_23 3), .inl (g 5, 10, .inr (.inr (.inr (.inr (va_up (fun _ => none) 0 (some (u_23 4)))))))), ((u_23 4), .inr (1, [.int 0, .ref (g 10), .int 0])), ((b 0), .inr (15, [.int (cd (TOKb (nI jx)) true true), .ref (b 1), .ref (b 2), .int 0, .ref (b 3), .ref (b 4), .ref (b 5), .null, .ref (b 6), .int 0, .int 0, .int 0, .int 0, .int 0])), ((r1 jx), .inl (g 0, 0, .inl (fun _ => 0))), (q_5, .inl (g 0, 5, .inl (upd (upd (upd (upd (upd (fun _ => 0) (0 : Int32).toNatClampNeg 0) (1 : Int32).toNatClampNeg 1) (2 : Int32).toNatClampNeg 4) (3 : Int32).toNatClampNeg 1) (4 : Int32).toNatClampNeg 2)))] H_23 := hP
    have hD : va_D A [((b 3), .inl (g 4, 8, .inr (.inr (.inr (.inr (fun i => if i < 8 then some (r1 i) else none)))))), ((b 1), .inl (g 0, 200, .inl (fun _ => 0))), ((b 2), .inl (g 0, 200, .inl (fun _ => 0))), ((b 5), .inl (g 0, 5, .inl stf)), (q_21, .inr (14, [.ref (u_23 0), .int 0, .int 0, .ref (u_23 1), .ref (u_23 2), .int 0, .int 0, .int 0, .int 0, .int 0, .int 0, .ref (b 0)])), ((u_23 0), .inl (g 0, 5, .inl (upd (upd (upd (upd (upd (fun _ => 0) (0 : Int32).toNatClampNeg 0) (1 : Int32).toNatClampNeg 1) (2 : Int32).toNatClampNeg 4) (3 : Int32).toNatClampNeg 1) (4 : Int32).toNatClampNeg 2))), ((u_23 2), .inr (1, [.int 0, .ref (g 10), .int 0])), ((u_23 1), .inr (1, [.int 1, .ref (u_23 3), .int 1])), ((u_23 3), .inl (g 5, 10, .inr (.inr (.inr (.inr (va_up (fun _ => none) 0 (some (u_23 4)))))))), ((u_23 4), .inr (1, [.int 0, .ref (g 10), .int 0])), ((b 0), .inr (15, [.int (cd (TOKb (nI jx)) true true), .ref (b 1), .ref (b 2), .int 0, .ref (b 3), .ref (b 4), .ref (b 5), .null, .ref (b 6), .int 0, .int 0, .int 0, .int 0, .int 0])), ((r1 jx), .inl (g 0, 0, .inl (fun _ => 0))), (q_5, .inl (g 0, 5, .inl (upd (upd (upd (upd (upd (fun _ => 0) (0 : Int32).toNatClampNeg 0) (1 : Int32).toNatClampNeg 1) (2 : Int32).toNatClampNeg 4) (3 : Int32).toNatClampNeg 1) (4 : Int32).toNatClampNeg 2)))] := hD
    refine W.widen (k := 10) (n := 50) (by omega) (by omega) ?_
    refine lv_astore_n (lv' := [(3, .ref q_21), (2, .ref q_5), (0, .ref (b 0)), (1, .int (nI jx))]) hx hb dX13_leastMoves_70 rfl hl (by decide) rfl (fun ls hl => ?_)
    refine lv_aload_n hx hb dX13_leastMoves_71 rfl (lv_at hl 0 rfl) ?_
    refine va_getN (D := (dC, dI)) (ci := 14) (v := .int 0) (C := RX12) (T := TX12) (N := 12) hx hb hts hiX12 hown hK hP 4 rfl rfl 7 (by decide) (nf_64 hG) (fun _ h9 => h9) rfl dX13_leastMoves_72 ?_
    refine lv_istore (lv' := [(4, .int 0), (3, .ref q_21), (2, .ref q_5), (0, .ref (b 0)), (1, .int (nI jx))]) hx hb dX13_leastMoves_75 hl (by decide) rfl (fun ls hl => ?_)
    refine lv_aload_n hx hb dX13_leastMoves_77 rfl (lv_at hl 1 rfl) ?_
    refine va_callv (va_runV (As := []) (rest := []) ⟨hx, hb, hml, hown, hts⟩ (c_X12_goes_0 l dC dI g [((b 3), .inl (g 4, 8, .inr (.inr (.inr (.inr (fun i => if i < 8 then some (r1 i) else none)))))), ((b 1), .inl (g 0, 200, .inl (fun _ => 0))), ((b 2), .inl (g 0, 200, .inl (fun _ => 0))), ((b 5), .inl (g 0, 5, .inl stf)), (q_21, .inr (14, [.ref (u_23 0), .int 0, .int 0, .ref (u_23 1), .ref (u_23 2), .int 0, .int 0, .int 0, .int 0, .int 0, .int 0, .ref (b 0)])), ((u_23 0), .inl (g 0, 5, .inl (upd (upd (upd (upd (upd (fun _ => 0) (0 : Int32).toNatClampNeg 0) (1 : Int32).toNatClampNeg 1) (2 : Int32).toNatClampNeg 4) (3 : Int32).toNatClampNeg 1) (4 : Int32).toNatClampNeg 2))), ((u_23 2), .inr (1, [.int 0, .ref (g 10), .int 0])), ((u_23 1), .inr (1, [.int 1, .ref (u_23 3), .int 1])), ((u_23 3), .inl (g 5, 10, .inr (.inr (.inr (.inr (va_up (fun _ => none) 0 (some (u_23 4)))))))), ((u_23 4), .inr (1, [.int 0, .ref (g 10), .int 0])), ((b 0), .inr (15, [.int (cd (TOKb (nI jx)) true true), .ref (b 1), .ref (b 2), .int 0, .ref (b 3), .ref (b 4), .ref (b 5), .null, .ref (b 6), .int 0, .int 0, .int 0, .int 0, .int 0])), ((r1 jx), .inl (g 0, 0, .inl (fun _ => 0))), (q_5, .inl (g 0, 5, .inl (upd (upd (upd (upd (upd (fun _ => 0) (0 : Int32).toNatClampNeg 0) (1 : Int32).toNatClampNeg 1) (2 : Int32).toNatClampNeg 4) (3 : Int32).toNatClampNeg 1) (4 : Int32).toNatClampNeg 2)))] q_21 (u_23 0) (u_23 1) (u_23 2) (b 0) (u_23 3) (u_23 4) 0 4 rfl 7 rfl 8 rfl 9 rfl  H_23.size) (cwV 0 hts gX13_leastMoves_X12_goes rfl rfl rfl (by decide +kernel) ⟨Nat.le_of_ble_eq_true rfl, Nat.le_of_ble_eq_true rfl⟩) ⟨PG_blind, va_recv hK hP (ci := 14) (q0 := 4) rfl rfl, PG_call hK hG hS hP hD (A_all hD hA hS.1)⟩ rfl rfl hl.1 rfl (lv_room (Nat.le_of_ble_eq_true rfl)) dX13_leastMoves_78 ⟨Nat.le_of_ble_eq_true rfl, Nat.le_of_ble_eq_true rfl⟩) hS (fun q _ h => (A_all hD hA hS.1) q h) (A_all hD hA hS.1) (fun u_24 t_24 H_24 L_24 ht_24 hvm_24 hw_24 hB_24 hz_24 hk_24 hS => ?_)
    replace hB_24 := (show va_P (dC, dI) vwCl [((b 3), .inl (g 4, 8, .inr (.inr (.inr (.inr (fun i => if i < 8 then some (r1 i) else none)))))), ((b 1), .inl (g 0, 200, .inl (fun _ => 0))), ((b 2), .inl (g 0, 200, .inl (fun _ => 0))), ((b 5), .inl (g 0, 5, .inl stf)), (q_21, .inr (14, [.ref (u_23 0), .int 0, .int 0, .ref (u_23 1), .ref (u_23 2), .int 0, .int 0, .int 0, .int 0, .int 0, .int 0, .ref (b 0)])), ((u_23 0), .inl (g 0, 5, .inl (upd (upd (upd (upd (upd (fun _ => 0) (0 : Int32).toNatClampNeg 0) (1 : Int32).toNatClampNeg 1) (2 : Int32).toNatClampNeg 4) (3 : Int32).toNatClampNeg 1) (4 : Int32).toNatClampNeg 2))), ((u_23 2), .inr (1, [.int 0, .ref (g 10), .int 0])), ((u_23 1), .inr (1, [.int 1, .ref (u_23 3), .int 1])), ((u_23 3), .inl (g 5, 10, .inr (.inr (.inr (.inr (va_up (fun _ => none) 0 (some (u_23 4)))))))), ((u_23 4), .inr (1, [.int 0, .ref (g 10), .int 0])), ((b 0), .inr (15, [.int (cd (TOKb (nI jx)) true true), .ref (b 1), .ref (b 2), .int 0, .ref (b 3), .ref (b 4), .ref (b 5), .null, .ref (b 6), .int 0, .int 0, .int 0, .int 0, .int 0])), ((r1 jx), .inl (g 0, 0, .inl (fun _ => 0))), (q_5, .inl (g 0, 5, .inl (upd (upd (upd (upd (upd (fun _ => 0) (0 : Int32).toNatClampNeg 0) (1 : Int32).toNatClampNeg 1) (2 : Int32).toNatClampNeg 4) (3 : Int32).toNatClampNeg 1) (4 : Int32).toNatClampNeg 2)))] t_24.heap from hB_24)
    rw [ht_24] at hB_24
    have hP := hB_24
    refine lv_aload_n hx hb dX13_leastMoves_81 rfl (lv_at hl 1 rfl) ?_
    refine va_getN (D := (dC, dI)) (ci := 14) (v := .int 0) (C := RX12) (T := TX12) (N := 12) hx hb hts hiX12 hown hK hP 4 rfl rfl 7 (by decide) (nf_64 hG) (fun _ h9 => h9) rfl dX13_leastMoves_82 ?_
    refine lv_iload hx hb dX13_leastMoves_85 (lv_at hl 0 rfl) ?_
    refine lv_isub hx hb dX13_leastMoves_87 ?_
    refine lv_topi (fun x_25 ex_25 => ?_)
    obtain rfl : x_25 = 0 := ex_25.trans (by decide)
    refine W.widen (k := 40) (n := 200) (by omega) (by omega) ?_
    have hcd : (cd (TOKb (nI jx)) true true) = (cd (TOKb (nI jx)) true true) := rfl
    have hP8 := hP.sub (ws' := [((b 0), .inr (15, [.int (cd (TOKb (nI jx)) true true), .ref (b 1), .ref (b 2), .int 0, .ref (b 3), .ref (b 4), .ref (b 5), .null, .ref (b 6), .int 0, .int 0, .int 0, .int 0, .int 0]))]) [10] rfl
    rw [hcd] at hP8
    exact W.iret (v := 0) hx hb hr (fun t ht hW => ⟨⟨0, (), rfl, (fun h => by first | rfl | (exact absurd (cd_0.mp h) (by simp [(TOK_j hjx rfl)]))), ⟨[.ref (b 1), .ref (b 2), .int 0, .ref (b 3), .ref (b 4), .ref (b 5), .null, .ref (b 6), .int 0, .int 0, .int 0, .int 0, .int 0], P_at ht hP8⟩⟩, hS.F ht⟩) hS.2.2 dX13_leastMoves_88
  · have hB_4 : (TOKb x) = false := b2i_0 c_3
    refine lv_iconst (v := 0) hx hb dX13_leastMoves_13 (by decide) ?_
    refine W.widen (k := 40) (n := 200) (by omega) (by omega) ?_
    have hcd : (cd (TOKb x) true true) = (cd (TOKb x) true true) := rfl
    have hP8 := hP.sub (ws' := [((b 0), .inr (15, [.int (cd (TOKb x) true true), .ref (b 1), .ref (b 2), .int 0, .ref (b 3), .ref (b 4), .ref (b 5), .null, .ref (b 6), .int 0, .int 0, .int 0, .int 0, .int 0]))]) [0] rfl
    rw [hcd] at hP8
    exact W.iret (v := 0) hx hb hr (fun t ht hW => ⟨⟨0, (), rfl, (fun h => by first | rfl | (exact absurd (cd_0.mp h) (by simp [hB_4]))), ⟨[.ref (b 1), .ref (b 2), .int 0, .ref (b 3), .ref (b 4), .ref (b 5), .null, .ref (b 6), .int 0, .int 0, .int 0, .int 0, .int 0], P_at ht hP8⟩⟩, hS.F ht⟩) hS.2.2 dX13_leastMoves_14
set_option maxHeartbeats 4000000 in
set_option maxRecDepth 100000 in
theorem c_X13_plan (l : Launch) (dC : Nat → ClassId) (dI : Nat → Nat → Nat) (g : Nat → ClassId) (b : Nat → Nat) (r1 : Nat → Nat) (r2 : Nat → Nat) (x : Int32) (k : Int32) (th : Int32) (sz : Nat) : Met l yX13_plan wsX13_plan ({ frames := 7, cells := 40, slots := 200, locals := 153 }) (va_Pc [.ref (b 0), .int x, .int k] (PG (dC, dI) g (modW b r1 r2 g th) sz)) (va_Qi (fun (r : Int32) (_ : Unit) => (cd (TOKb x) (rngb k 0 3) true) = 0 → r = 0) (fun (_ : Unit) t => ∃ fs : List Value, va_P (dC, dI) vwCl [(b 0, .inr (15, .int (cd (TOKb x) (rngb k 0 3) true) :: fs))] t.heap) (va_A (modW b r1 r2 g th) sz)) 40 200 (va_A (modW b r1 r2 g th) sz) := by
  refine Met.ofW (cc := cX13_plan) (maxL := 6) (ret := (some .int)) (by decide) rfl ?_
  intro p e s m args below meth c s₁ B hml hv
  obtain ⟨rfl, hsz, hP, hK, hD0, hG⟩ := hv
  have hx := B.exec
  have hb := B.bytes
  have hr := B.returns
  have hts := atoms_spec (ws := wsX13_plan) B.pre
  have hown : s.vm.findClass RX13 = some m.cls := findClass_of_methodNamed B.named
  have hlocks := B.notSynchronized
  subst hsz
  have hD := hD0.self (sz := s.heap.size)
  generalize hAe : va_A (modW b r1 r2 g th) s.heap.size = A at hD hG ⊢
  have hA : ∀ q : Nat, s.heap.size ≤ q → A q := fun q h => by rw [← hAe]; exact Or.inr h
  have hS : va_S A s.heap s.heap [] := va_S.rf
  have hl := lv_entry ([.ref (b 0), .int x, .int k]) (n := 6) (Nat.le_of_ble_eq_true rfl)
  rw [lg_entry_eq]
  generalize (lg_sl ([.ref (b 0), .int x, .int k]) ++ List.replicate (6 - (lg_sl ([.ref (b 0), .int x, .int k])).length) Slot.unset).toArray = ls at hl ⊢
  have hl : lv_has ls 6 [(0, .ref (b 0)), (1, .int x), (2, .int k)] := hl
  have hcl147 := hts (Cond.classLink RX13 147 RX12) (by decide +kernel)
  have hinX12 := hts (Cond.instantiable RX12 12) (by decide +kernel)
  have hiniX12 := hts (Cond.initialized RX12) (by decide +kernel)
  have hiX12 : ∀ w ∈ u_ws RX12 TX12 12, w ∈ wsX13_plan := by decide +kernel
  have hf29 := hts (Cond.fieldLink RX13 29 "RunmergeOfficeModel" "tapes" "[[I") (by decide +kernel)
  have hiX13 : ∀ w ∈ u_ws RX13 TX13 14, w ∈ wsX13_plan := by decide +kernel
  have hf35 := hts (Cond.fieldLink RX13 35 "RunmergeOfficeModel" "settings" "[I") (by decide +kernel)
  have himX12_init := hts (Cond.instanceMethod yX12_init) (by decide +kernel)
  have hml149 := hts (Cond.methodLink RX13 149 yX12_init) (by decide +kernel)
  have hnaint := hts (Cond.arrayClass (newarray.typeOf .int)) (by decide +kernel)
  refine lv_aload_n hx hb dX13_plan_0 rfl (lv_at hl 0 rfl) ?_
  refine lv_iload_n hx hb dX13_plan_1 rfl (lv_at hl 1 rfl) ?_
  refine va_calli (va_runS (As := [.int x]) (rest := [.ref (b 0)]) ⟨hx, hb, hml, hown, hts⟩ (c_X13_isTape l dC dI g (modW b r1 r2 g th) x   s.heap.size) (va_cwS 1 hts gX13_plan_X13_isTape rfl rfl rfl (by decide +kernel) ⟨Nat.le_of_ble_eq_true rfl, Nat.le_of_ble_eq_true rfl⟩) ⟨PG_blind, PG_call hK hG hS hP hD (A_all hD hA hS.1)⟩ rfl rfl hl.1 rfl (lv_room (Nat.le_of_ble_eq_true rfl)) dX13_plan_2 ⟨Nat.le_of_ble_eq_true rfl, Nat.le_of_ble_eq_true rfl⟩) hS (fun q _ h => (A_all hD hA hS.1) q h) (A_all hD hA hS.1) (fun r_1 u_1 t_1 H_1 L_1 ht_1 hvm_1 hw_1 hB_1 hz_1 hk_1 hS => ?_)
  replace hB_1 := (show va_P (dC, dI) vwCl (modW b r1 r2 g th) t_1.heap from hB_1)
  rw [ht_1] at hB_1
  have hP := hB_1
  obtain rfl : r_1 = b2i (TOKb x) := hw_1
  refine lv_iload_n hx hb dX13_plan_5 rfl (lv_at hl 2 rfl) ?_
  refine lv_iconst (v := 0) hx hb dX13_plan_6 (by decide) ?_
  refine lv_iconst (v := 3) hx hb dX13_plan_7 (by decide) ?_
  refine va_calli (va_runS (As := [.int k, .int 0, .int 3]) (rest := [.int (b2i (TOKb x)), .ref (b 0)]) ⟨hx, hb, hml, hown, hts⟩ (c_X13_in l dC dI g (modW b r1 r2 g th) k 0 3   H_1.size) (va_cwS 3 hts gX13_plan_X13_in rfl rfl rfl (by decide +kernel) ⟨Nat.le_of_ble_eq_true rfl, Nat.le_of_ble_eq_true rfl⟩) ⟨PG_blind, PG_call hK hG hS hP hD (A_all hD hA hS.1)⟩ rfl rfl hl.1 rfl (lv_room (Nat.le_of_ble_eq_true rfl)) dX13_plan_8 ⟨Nat.le_of_ble_eq_true rfl, Nat.le_of_ble_eq_true rfl⟩) hS (fun q _ h => (A_all hD hA hS.1) q h) (A_all hD hA hS.1) (fun r_2 u_2 t_2 H_2 L_2 ht_2 hvm_2 hw_2 hB_2 hz_2 hk_2 hS => ?_)
  replace hB_2 := (show va_P (dC, dI) vwCl (modW b r1 r2 g th) t_2.heap from hB_2)
  rw [ht_2] at hB_2
  have hP := hB_2
  obtain rfl : r_2 = b2i (rngb k 0 3) := hw_2
  refine lv_iconst (v := 1) hx hb dX13_plan_11 (by decide) ?_
  refine va_calli (va_runV (As := [.int (b2i (TOKb x)), .int (b2i (rngb k 0 3)), .int 1]) (rest := []) ⟨hx, hb, hml, hown, hts⟩ (c_X13_passes l dC dI g b r1 r2 th (TOKb x) (rngb k 0 3) true  H_2.size) (cwV 3 hts gX13_plan_X13_passes rfl rfl rfl (by decide +kernel) ⟨Nat.le_of_ble_eq_true rfl, Nat.le_of_ble_eq_true rfl⟩) ⟨PG_blind, va_recv hK hP (ci := 15) (q0 := 0) rfl (m_0 b r1 r2 g th), PG_call hK hG hS hP hD (A_all hD hA hS.1)⟩ rfl rfl hl.1 rfl (lv_room (Nat.le_of_ble_eq_true rfl)) dX13_plan_12 ⟨Nat.le_of_ble_eq_true rfl, Nat.le_of_ble_eq_true rfl⟩) hS (fun q _ h => (A_all hD hA hS.1) q h) (A_all hD hA hS.1) (fun r_3 u_3 t_3 H_3 L_3 ht_3 hvm_3 hw_3 hB_3 hz_3 hk_3 hS => ?_)
  rw [ht_3] at hB_3
  have hP : va_P (dC, dI) vwCl (modW b r1 r2 g (cd (TOKb x) (rngb k 0 3) true)) H_3 := hB_3
  have hD : va_D A (modW b r1 r2 g (cd (TOKb x) (rngb k 0 3) true)) := va_D_th hD
  obtain rfl : r_3 = b2i (TOKb x && rngb k 0 3) := hw_3.trans (by simp)
  refine lv_if_ne (tgt := 20) hx hb dX13_plan_15 (by decide) (fun c_4 => ?_) (fun c_4 => ?_)
  · have hB_5 : (TOKb x && rngb k 0 3) = true := b2i_1 c_4
    obtain ⟨jx, hjx, rfl⟩ := TOK_ex (x := x) (by have h := hB_5; simp only [Bool.and_eq_true] at h; first | exact h.1 | exact h.2 | exact h.1.1 | exact h.1.2)
    obtain ⟨hP, hD⟩ := mod_x b r1 r2 g (cd (TOKb (nI jx)) (rngb k 0 3) true) jx hjx hP hD
    have hP : va_P (dC, dI) vwCl [((b 0), .inr (15, [.int (cd (TOKb (nI jx)) (rngb k 0 3) true), .ref (b 1), .ref (b 2), .int 0, .ref (b 3), .ref (b 4), .ref (b 5), .null, .ref (b 6), .int 0, .int 0, .int 0, .int 0, .int 0])), ((b 3), .inl (g 4, 8, .inr (.inr (.inr (.inr (fun i => if i < 8 then some (r1 i) else none)))))), ((r1 jx), .inl (g 0, 0, .inl (fun _ => 0))), ((b 1), .inl (g 0, 200, .inl (fun _ => 0))), ((b 2), .inl (g 0, 200, .inl (fun _ => 0))), ((b 5), .inl (g 0, 5, .inl stf))] H_3 := hP
    have hD : va_D A [((b 0), .inr (15, [.int (cd (TOKb (nI jx)) (rngb k 0 3) true), .ref (b 1), .ref (b 2), .int 0, .ref (b 3), .ref (b 4), .ref (b 5), .null, .ref (b 6), .int 0, .int 0, .int 0, .int 0, .int 0])), ((b 3), .inl (g 4, 8, .inr (.inr (.inr (.inr (fun i => if i < 8 then some (r1 i) else none)))))), ((r1 jx), .inl (g 0, 0, .inl (fun _ => 0))), ((b 1), .inl (g 0, 200, .inl (fun _ => 0))), ((b 2), .inl (g 0, 200, .inl (fun _ => 0))), ((b 5), .inl (g 0, 5, .inl stf))] := hD
    refine va_new (ci := 14) (fs := [.null, .int 0, .int 0, .null, .null, .int 0, .int 0, .int 0, .int 0, .int 0, .int 0, .null]) (C := RX12) (T := TX12) (N := 12) hx hb hts hiX12 tyX12 tyX12_ok hown hcl147 hinX12 hiniX12 hK hP hD hS hA rfl (fun j hj => by rcases (show j = 0 ∨ j = 1 ∨ j = 2 ∨ j = 3 ∨ j = 4 ∨ j = 5 ∨ j = 6 ∨ j = 7 ∨ j = 8 ∨ j = 9 ∨ j = 10 ∨ j = 11 by omega) with rfl | rfl | rfl | rfl | rfl | rfl | rfl | rfl | rfl | rfl | rfl | rfl <;> rfl) (Nat.le_of_ble_eq_true rfl) (Nat.le_of_ble_eq_true rfl) dX13_plan_20 (fun q_6 H_7 hP hD hS => ?_)
    have hP : va_P (dC, dI) vwCl [((b 0), .inr (15, [.int (cd (TOKb (nI jx)) (rngb k 0 3) true), .ref (b 1), .ref (b 2), .int 0, .ref (b 3), .ref (b 4), .ref (b 5), .null, .ref (b 6), .int 0, .int 0, .int 0, .int 0, .int 0])), ((b 3), .inl (g 4, 8, .inr (.inr (.inr (.inr (fun i => if i < 8 then some (r1 i) else none)))))), ((r1 jx), .inl (g 0, 0, .inl (fun _ => 0))), ((b 1), .inl (g 0, 200, .inl (fun _ => 0))), ((b 2), .inl (g 0, 200, .inl (fun _ => 0))), ((b 5), .inl (g 0, 5, .inl stf)), (q_6, .inr (14, [.null, .int 0, .int 0, .null, .null, .int 0, .int 0, .int 0, .int 0, .int 0, .int 0, .null]))] H_7 := hP
    have hD : va_D A [((b 0), .inr (15, [.int (cd (TOKb (nI jx)) (rngb k 0 3) true), .ref (b 1), .ref (b 2), .int 0, .ref (b 3), .ref (b 4), .ref (b 5), .null, .ref (b 6), .int 0, .int 0, .int 0, .int 0, .int 0])), ((b 3), .inl (g 4, 8, .inr (.inr (.inr (.inr (fun i => if i < 8 then some (r1 i) else none)))))), ((r1 jx), .inl (g 0, 0, .inl (fun _ => 0))), ((b 1), .inl (g 0, 200, .inl (fun _ => 0))), ((b 2), .inl (g 0, 200, .inl (fun _ => 0))), ((b 5), .inl (g 0, 5, .inl stf)), (q_6, .inr (14, [.null, .int 0, .int 0, .null, .null, .int 0, .int 0, .int 0, .int 0, .int 0, .int 0, .null]))] := hD
    refine W.widen (k := 1) (n := 12) (by omega) (by omega) ?_
    refine lv_dup hx hb dX13_plan_23 rfl ?_
    refine lv_aload_n hx hb dX13_plan_24 rfl (lv_at hl 0 rfl) ?_
    refine lv_aload_n hx hb dX13_plan_25 rfl (lv_at hl 0 rfl) ?_
    refine va_get (D := (dC, dI)) (ci := 15) (v := .ref (b 3)) (C := RX13) (T := TX13) (N := 14) hx hb hts hiX13 hown hK hP 0 rfl rfl 4 (by decide) hf29 (fun _ h9 => h9) rfl dX13_plan_26 ?_
    refine lv_iload_n hx hb dX13_plan_29 rfl (lv_at hl 1 rfl) ?_
    refine va_aldA hx hb hK hP 1 rfl (vp_in_nI hjx (by decide)) dX13_plan_30 ?_
    refine W.eq (g2 := F0 m 31 ls [.ref (r1 jx), .ref (b 0), .ref q_6, .ref q_6]) (by rw [nI_clamp (show jx < 2 ^ 31 by omega)]; simp only [if_pos hjx]; rfl) ?_
    refine lv_iconst (v := 0) hx hb dX13_plan_31 (by decide) ?_
    refine lv_aload_n hx hb dX13_plan_32 rfl (lv_at hl 0 rfl) ?_
    refine va_get (D := (dC, dI)) (ci := 15) (v := .ref (b 5)) (C := RX13) (T := TX13) (N := 14) hx hb hts hiX13 hown hK hP 0 rfl rfl 6 (by decide) hf35 (fun _ h9 => h9) rfl dX13_plan_33 ?_
    have hPc := hP.sub (ws' := [(q_6, .inr (14, [.null, .int 0, .int 0, .null, .null, .int 0, .int 0, .int 0, .int 0, .int 0, .int 0, .null])), ((b 0), .inr (15, [.int (cd (TOKb (nI jx)) (rngb k 0 3) true), .ref (b 1), .ref (b 2), .int 0, .ref (b 3), .ref (b 4), .ref (b 5), .null, .ref (b 6), .int 0, .int 0, .int 0, .int 0, .int 0])), ((r1 jx), .inl (g 0, 0, .inl (fun _ => 0))), ((b 5), .inl (g 0, 5, .inl stf))]) [6, 0, 2, 5] rfl
    have hDc := hD.sub (ws' := [(q_6, .inr (14, [.null, .int 0, .int 0, .null, .null, .int 0, .int 0, .int 0, .int 0, .int 0, .int 0, .null])), ((b 0), .inr (15, [.int (cd (TOKb (nI jx)) (rngb k 0 3) true), .ref (b 1), .ref (b 2), .int 0, .ref (b 3), .ref (b 4), .ref (b 5), .null, .ref (b 6), .int 0, .int 0, .int 0, .int 0, .int 0])), ((r1 jx), .inl (g 0, 0, .inl (fun _ => 0))), ((b 5), .inl (g 0, 5, .inl stf))]) [6, 0, 2, 5] (by decide) rfl
    have hFc := va_free (wc := [(q_6, .inr (14, [.null, .int 0, .int 0, .null, .null, .int 0, .int 0, .int 0, .int 0, .int 0, .int 0, .null])), ((b 0), .inr (15, [.int (cd (TOKb (nI jx)) (rngb k 0 3) true), .ref (b 1), .ref (b 2), .int 0, .ref (b 3), .ref (b 4), .ref (b 5), .null, .ref (b 6), .int 0, .int 0, .int 0, .int 0, .int 0])), ((r1 jx), .inl (g 0, 0, .inl (fun _ => 0))), ((b 5), .inl (g 0, 5, .inl stf))]) hD hS hA [6, 0, 2, 5] rfl
    refine va_callv (va_runI (As := [.ref (b 0), .ref (r1 jx), .int 0, .ref (b 5)]) (rest := [.ref q_6]) ⟨hx, hb, hml, hown, hts⟩ (c_X12_init_10 l dC dI g q_6 (b 0) (r1 jx) (b 5) 0 (fun _ => 0) stf (cd (TOKb (nI jx)) (rngb k 0 3) true) (b 1) (b 2) 0 (b 3) (b 4) (b 5) none (b 6) 0 0 0 0 0 (by decide) (by decide) (by decide) (by decide) (by decide) H_7.size) (cwI 4 hts gX13_plan_X12_init rfl rfl rfl hiniX12 hml149 himX12_init rfl (by decide +kernel) ⟨Nat.le_of_ble_eq_true rfl, Nat.le_of_ble_eq_true rfl⟩) ⟨PG_blind, PG_call hK hG hS hPc hDc hFc⟩ rfl rfl hl.1 rfl (lv_room (Nat.le_of_ble_eq_true rfl)) dX13_plan_36 ⟨Nat.le_of_ble_eq_true rfl, Nat.le_of_ble_eq_true rfl⟩) hS (fun q _ h => hFc q h) hFc (fun u_8 t_8 H_8 L_8 ht_8 hvm_8 hw_8 hB_8 hz_8 hk_8 hS => ?_)
    obtain ⟨hP1, hD1⟩ := hB_8
    rw [ht_8] at hP1
    obtain ⟨hP, hD⟩ := va_join (wr := [((b 3), .inl (g 4, 8, .inr (.inr (.inr (.inr (fun i => if i < 8 then some (r1 i) else none)))))), ((b 1), .inl (g 0, 200, .inl (fun _ => 0))), ((b 2), .inl (g 0, 200, .inl (fun _ => 0)))]) (w1 := [(q_6, .inr (14, [.ref (u_8 0), .int 0, .int 0, .ref (u_8 1), .ref (u_8 2), .int 0, .int 0, .int 0, .int 0, .int 0, .int 0, .ref (b 0)])), ((u_8 0), .inl (g 0, 5, .inl (upd (upd (upd (upd (upd (fun _ => 0) (0 : Int32).toNatClampNeg 0) (1 : Int32).toNatClampNeg 1) (2 : Int32).toNatClampNeg 4) (3 : Int32).toNatClampNeg 0) (4 : Int32).toNatClampNeg 2))), ((u_8 2), .inr (1, [.int 0, .ref (g 10), .int 0])), ((u_8 1), .inr (1, [.int 1, .ref (u_8 3), .int 1])), ((u_8 3), .inl (g 5, 10, .inr (.inr (.inr (.inr (va_up (fun _ => none) 0 (some (u_8 4)))))))), ((u_8 4), .inr (1, [.int 0, .ref (g 10), .int 0])), ((b 0), .inr (15, [.int (cd (TOKb (nI jx)) (rngb k 0 3) true), .ref (b 1), .ref (b 2), .int 0, .ref (b 3), .ref (b 4), .ref (b 5), .null, .ref (b 6), .int 0, .int 0, .int 0, .int 0, .int 0])), ((r1 jx), .inl (g 0, 0, .inl (fun _ => 0))), ((b 5), .inl (g 0, 5, .inl stf))]) hP hD [6, 0, 2, 5] [1, 3, 4] rfl rfl (by decide) (by decide) hk_8 hFc hP1 hD1
    have hP : va_P (dC, dI) vwCl [((b 3), .inl (g 4, 8, .inr (.inr (.inr (.inr (fun i => if i < 8 then some (r1 i) else none)))))), ((b 1), .inl (g 0, 200, .inl (fun _ => 0))), ((b 2), .inl (g 0, 200, .inl (fun _ => 0))), (q_6, .inr (14, [.ref (u_8 0), .int 0, .int 0, .ref (u_8 1), .ref (u_8 2), .int 0, .int 0, .int 0, .int 0, .int 0, .int 0, .ref (b 0)])), ((u_8 0), .inl (g 0, 5, .inl (upd (upd (upd (upd (upd (fun _ => 0) (0 : Int32).toNatClampNeg 0) (1 : Int32).toNatClampNeg 1) (2 : Int32).toNatClampNeg 4) (3 : Int32).toNatClampNeg 0) (4 : Int32).toNatClampNeg 2))), ((u_8 2), .inr (1, [.int 0, .ref (g 10), .int 0])), ((u_8 1), .inr (1, [.int 1, .ref (u_8 3), .int 1])), ((u_8 3), .inl (g 5, 10, .inr (.inr (.inr (.inr (va_up (fun _ => none) 0 (some (u_8 4)))))))), ((u_8 4), .inr (1, [.int 0, .ref (g 10), .int 0])), ((b 0), .inr (15, [.int (cd (TOKb (nI jx)) (rngb k 0 3) true), .ref (b 1), .ref (b 2), .int 0, .ref (b 3), .ref (b 4), .ref (b 5), .null, .ref (b 6), .int 0, .int 0, .int 0, .int 0, .int 0])), ((r1 jx), .inl (g 0, 0, .inl (fun _ => 0))), ((b 5), .inl (g 0, 5, .inl stf))] H_8 := hP
    have hD : va_D A [((b 3), .inl (g 4, 8, .inr (.inr (.inr (.inr (fun i => if i < 8 then some (r1 i) else none)))))), ((b 1), .inl (g 0, 200, .inl (fun _ => 0))), ((b 2), .inl (g 0, 200, .inl (fun _ => 0))), (q_6, .inr (14, [.ref (u_8 0), .int 0, .int 0, .ref (u_8 1), .ref (u_8 2), .int 0, .int 0, .int 0, .int 0, .int 0, .int 0, .ref (b 0)])), ((u_8 0), .inl (g 0, 5, .inl (upd (upd (upd (upd (upd (fun _ => 0) (0 : Int32).toNatClampNeg 0) (1 : Int32).toNatClampNeg 1) (2 : Int32).toNatClampNeg 4) (3 : Int32).toNatClampNeg 0) (4 : Int32).toNatClampNeg 2))), ((u_8 2), .inr (1, [.int 0, .ref (g 10), .int 0])), ((u_8 1), .inr (1, [.int 1, .ref (u_8 3), .int 1])), ((u_8 3), .inl (g 5, 10, .inr (.inr (.inr (.inr (va_up (fun _ => none) 0 (some (u_8 4)))))))), ((u_8 4), .inr (1, [.int 0, .ref (g 10), .int 0])), ((b 0), .inr (15, [.int (cd (TOKb (nI jx)) (rngb k 0 3) true), .ref (b 1), .ref (b 2), .int 0, .ref (b 3), .ref (b 4), .ref (b 5), .null, .ref (b 6), .int 0, .int 0, .int 0, .int 0, .int 0])), ((r1 jx), .inl (g 0, 0, .inl (fun _ => 0))), ((b 5), .inl (g 0, 5, .inl stf))] := hD
    refine W.widen (k := 9) (n := 45) (by omega) (by omega) ?_
    refine lv_astore_n (lv' := [(3, .ref q_6), (0, .ref (b 0)), (1, .int (nI jx)), (2, .int k)]) hx hb dX13_plan_39 rfl hl (by decide) rfl (fun ls hl => ?_)
    refine lv_aload_n hx hb dX13_plan_40 rfl (lv_at hl 0 rfl) ?_
    refine va_getN (D := (dC, dI)) (ci := 14) (v := .int 0) (C := RX12) (T := TX12) (N := 12) hx hb hts hiX12 hown hK hP 3 rfl rfl 7 (by decide) (nf_64 hG) (fun _ h9 => h9) rfl dX13_plan_41 ?_
    refine lv_istore (lv' := [(4, .int 0), (3, .ref q_6), (0, .ref (b 0)), (1, .int (nI jx)), (2, .int k)]) hx hb dX13_plan_44 hl (by decide) rfl (fun ls hl => ?_)
    refine lv_aload_n hx hb dX13_plan_46 rfl (lv_at hl 1 rfl) ?_
    refine va_callv (va_runV (As := []) (rest := []) ⟨hx, hb, hml, hown, hts⟩ (c_X12_goes_0 l dC dI g [((b 3), .inl (g 4, 8, .inr (.inr (.inr (.inr (fun i => if i < 8 then some (r1 i) else none)))))), ((b 1), .inl (g 0, 200, .inl (fun _ => 0))), ((b 2), .inl (g 0, 200, .inl (fun _ => 0))), (q_6, .inr (14, [.ref (u_8 0), .int 0, .int 0, .ref (u_8 1), .ref (u_8 2), .int 0, .int 0, .int 0, .int 0, .int 0, .int 0, .ref (b 0)])), ((u_8 0), .inl (g 0, 5, .inl (upd (upd (upd (upd (upd (fun _ => 0) (0 : Int32).toNatClampNeg 0) (1 : Int32).toNatClampNeg 1) (2 : Int32).toNatClampNeg 4) (3 : Int32).toNatClampNeg 0) (4 : Int32).toNatClampNeg 2))), ((u_8 2), .inr (1, [.int 0, .ref (g 10), .int 0])), ((u_8 1), .inr (1, [.int 1, .ref (u_8 3), .int 1])), ((u_8 3), .inl (g 5, 10, .inr (.inr (.inr (.inr (va_up (fun _ => none) 0 (some (u_8 4)))))))), ((u_8 4), .inr (1, [.int 0, .ref (g 10), .int 0])), ((b 0), .inr (15, [.int (cd (TOKb (nI jx)) (rngb k 0 3) true), .ref (b 1), .ref (b 2), .int 0, .ref (b 3), .ref (b 4), .ref (b 5), .null, .ref (b 6), .int 0, .int 0, .int 0, .int 0, .int 0])), ((r1 jx), .inl (g 0, 0, .inl (fun _ => 0))), ((b 5), .inl (g 0, 5, .inl stf))] q_6 (u_8 0) (u_8 1) (u_8 2) (b 0) (u_8 3) (u_8 4) 0 3 rfl 6 rfl 7 rfl 8 rfl  H_8.size) (cwV 0 hts gX13_plan_X12_goes rfl rfl rfl (by decide +kernel) ⟨Nat.le_of_ble_eq_true rfl, Nat.le_of_ble_eq_true rfl⟩) ⟨PG_blind, va_recv hK hP (ci := 14) (q0 := 3) rfl rfl, PG_call hK hG hS hP hD (A_all hD hA hS.1)⟩ rfl rfl hl.1 rfl (lv_room (Nat.le_of_ble_eq_true rfl)) dX13_plan_47 ⟨Nat.le_of_ble_eq_true rfl, Nat.le_of_ble_eq_true rfl⟩) hS (fun q _ h => (A_all hD hA hS.1) q h) (A_all hD hA hS.1) (fun u_9 t_9 H_9 L_9 ht_9 hvm_9 hw_9 hB_9 hz_9 hk_9 hS => ?_)
    replace hB_9 := (show va_P (dC, dI) vwCl [((b 3), .inl (g 4, 8, .inr (.inr (.inr (.inr (fun i => if i < 8 then some (r1 i) else none)))))), ((b 1), .inl (g 0, 200, .inl (fun _ => 0))), ((b 2), .inl (g 0, 200, .inl (fun _ => 0))), (q_6, .inr (14, [.ref (u_8 0), .int 0, .int 0, .ref (u_8 1), .ref (u_8 2), .int 0, .int 0, .int 0, .int 0, .int 0, .int 0, .ref (b 0)])), ((u_8 0), .inl (g 0, 5, .inl (upd (upd (upd (upd (upd (fun _ => 0) (0 : Int32).toNatClampNeg 0) (1 : Int32).toNatClampNeg 1) (2 : Int32).toNatClampNeg 4) (3 : Int32).toNatClampNeg 0) (4 : Int32).toNatClampNeg 2))), ((u_8 2), .inr (1, [.int 0, .ref (g 10), .int 0])), ((u_8 1), .inr (1, [.int 1, .ref (u_8 3), .int 1])), ((u_8 3), .inl (g 5, 10, .inr (.inr (.inr (.inr (va_up (fun _ => none) 0 (some (u_8 4)))))))), ((u_8 4), .inr (1, [.int 0, .ref (g 10), .int 0])), ((b 0), .inr (15, [.int (cd (TOKb (nI jx)) (rngb k 0 3) true), .ref (b 1), .ref (b 2), .int 0, .ref (b 3), .ref (b 4), .ref (b 5), .null, .ref (b 6), .int 0, .int 0, .int 0, .int 0, .int 0])), ((r1 jx), .inl (g 0, 0, .inl (fun _ => 0))), ((b 5), .inl (g 0, 5, .inl stf))] t_9.heap from hB_9)
    rw [ht_9] at hB_9
    have hP := hB_9
    refine lv_iconst (v := 4) hx hb dX13_plan_50 (by decide) ?_
    refine va_newa (atype := .int) (a0 := (4, .inl (fun _ => 0))) hx hb hnaint rfl hK hP hD hS hA (fun _ => rfl) (by decide) (N' := 4) (by decide) (Nat.le_of_ble_eq_true rfl) (Nat.le_of_ble_eq_true rfl) (Nat.le_of_ble_eq_true rfl) dX13_plan_51 (fun q_10 cA_12 H_11 hK9 hP hD hS => ?_)
    obtain rfl : g 0 = cA_12 := K_one hK9 0 6 rfl rfl
    have hP : va_P (dC, dI) vwCl [((b 3), .inl (g 4, 8, .inr (.inr (.inr (.inr (fun i => if i < 8 then some (r1 i) else none)))))), ((b 1), .inl (g 0, 200, .inl (fun _ => 0))), ((b 2), .inl (g 0, 200, .inl (fun _ => 0))), (q_6, .inr (14, [.ref (u_8 0), .int 0, .int 0, .ref (u_8 1), .ref (u_8 2), .int 0, .int 0, .int 0, .int 0, .int 0, .int 0, .ref (b 0)])), ((u_8 0), .inl (g 0, 5, .inl (upd (upd (upd (upd (upd (fun _ => 0) (0 : Int32).toNatClampNeg 0) (1 : Int32).toNatClampNeg 1) (2 : Int32).toNatClampNeg 4) (3 : Int32).toNatClampNeg 0) (4 : Int32).toNatClampNeg 2))), ((u_8 2), .inr (1, [.int 0, .ref (g 10), .int 0])), ((u_8 1), .inr (1, [.int 1, .ref (u_8 3), .int 1])), ((u_8 3), .inl (g 5, 10, .inr (.inr (.inr (.inr (va_up (fun _ => none) 0 (some (u_8 4)))))))), ((u_8 4), .inr (1, [.int 0, .ref (g 10), .int 0])), ((b 0), .inr (15, [.int (cd (TOKb (nI jx)) (rngb k 0 3) true), .ref (b 1), .ref (b 2), .int 0, .ref (b 3), .ref (b 4), .ref (b 5), .null, .ref (b 6), .int 0, .int 0, .int 0, .int 0, .int 0])), ((r1 jx), .inl (g 0, 0, .inl (fun _ => 0))), ((b 5), .inl (g 0, 5, .inl stf)), (q_10, .inl (g 0, 4, .inl (fun _ => 0)))] H_11 := hP
    have hD : va_D A [((b 3), .inl (g 4, 8, .inr (.inr (.inr (.inr (fun i => if i < 8 then some (r1 i) else none)))))), ((b 1), .inl (g 0, 200, .inl (fun _ => 0))), ((b 2), .inl (g 0, 200, .inl (fun _ => 0))), (q_6, .inr (14, [.ref (u_8 0), .int 0, .int 0, .ref (u_8 1), .ref (u_8 2), .int 0, .int 0, .int 0, .int 0, .int 0, .int 0, .ref (b 0)])), ((u_8 0), .inl (g 0, 5, .inl (upd (upd (upd (upd (upd (fun _ => 0) (0 : Int32).toNatClampNeg 0) (1 : Int32).toNatClampNeg 1) (2 : Int32).toNatClampNeg 4) (3 : Int32).toNatClampNeg 0) (4 : Int32).toNatClampNeg 2))), ((u_8 2), .inr (1, [.int 0, .ref (g 10), .int 0])), ((u_8 1), .inr (1, [.int 1, .ref (u_8 3), .int 1])), ((u_8 3), .inl (g 5, 10, .inr (.inr (.inr (.inr (va_up (fun _ => none) 0 (some (u_8 4)))))))), ((u_8 4), .inr (1, [.int 0, .ref (g 10), .int 0])), ((b 0), .inr (15, [.int (cd (TOKb (nI jx)) (rngb k 0 3) true), .ref (b 1), .ref (b 2), .int 0, .ref (b 3), .ref (b 4), .ref (b 5), .null, .ref (b 6), .int 0, .int 0, .int 0, .int 0, .int 0])), ((r1 jx), .inl (g 0, 0, .inl (fun _ => 0))), ((b 5), .inl (g 0, 5, .inl stf)), (q_10, .inl (g 0, 4, .inl (fun _ => 0)))] := hD
    refine W.widen (k := 10) (n := 49) (by omega) (by omega) ?_
    refine lv_dup hx hb dX13_plan_53 rfl ?_
    refine lv_iconst (v := 0) hx hb dX13_plan_54 (by decide) ?_
    refine lv_aload_n hx hb dX13_plan_55 rfl (lv_at hl 1 rfl) ?_
    refine va_getN (D := (dC, dI)) (ci := 14) (v := .int 0) (C := RX12) (T := TX12) (N := 12) hx hb hts hiX12 hown hK hP 3 rfl rfl 5 (by decide) (nf_62 hG) (fun _ h9 => h9) rfl dX13_plan_56 ?_
    refine va_iast hx hb hK hP hD hS 12 0 rfl rfl (by unfold vp_in; decide) dX13_plan_59 (fun H_13 L_14 hP hD hS => ?_)
    have hP : va_P (dC, dI) vwCl [((b 3), .inl (g 4, 8, .inr (.inr (.inr (.inr (fun i => if i < 8 then some (r1 i) else none)))))), ((b 1), .inl (g 0, 200, .inl (fun _ => 0))), ((b 2), .inl (g 0, 200, .inl (fun _ => 0))), (q_6, .inr (14, [.ref (u_8 0), .int 0, .int 0, .ref (u_8 1), .ref (u_8 2), .int 0, .int 0, .int 0, .int 0, .int 0, .int 0, .ref (b 0)])), ((u_8 0), .inl (g 0, 5, .inl (upd (upd (upd (upd (upd (fun _ => 0) (0 : Int32).toNatClampNeg 0) (1 : Int32).toNatClampNeg 1) (2 : Int32).toNatClampNeg 4) (3 : Int32).toNatClampNeg 0) (4 : Int32).toNatClampNeg 2))), ((u_8 2), .inr (1, [.int 0, .ref (g 10), .int 0])), ((u_8 1), .inr (1, [.int 1, .ref (u_8 3), .int 1])), ((u_8 3), .inl (g 5, 10, .inr (.inr (.inr (.inr (va_up (fun _ => none) 0 (some (u_8 4)))))))), ((u_8 4), .inr (1, [.int 0, .ref (g 10), .int 0])), ((b 0), .inr (15, [.int (cd (TOKb (nI jx)) (rngb k 0 3) true), .ref (b 1), .ref (b 2), .int 0, .ref (b 3), .ref (b 4), .ref (b 5), .null, .ref (b 6), .int 0, .int 0, .int 0, .int 0, .int 0])), ((r1 jx), .inl (g 0, 0, .inl (fun _ => 0))), ((b 5), .inl (g 0, 5, .inl stf)), (q_10, .inl (g 0, 4, .inl (upd (fun _ => 0) (0 : Int32).toNatClampNeg 0)))] H_13 := hP
    have hD : va_D A [((b 3), .inl (g 4, 8, .inr (.inr (.inr (.inr (fun i => if i < 8 then some (r1 i) else none)))))), ((b 1), .inl (g 0, 200, .inl (fun _ => 0))), ((b 2), .inl (g 0, 200, .inl (fun _ => 0))), (q_6, .inr (14, [.ref (u_8 0), .int 0, .int 0, .ref (u_8 1), .ref (u_8 2), .int 0, .int 0, .int 0, .int 0, .int 0, .int 0, .ref (b 0)])), ((u_8 0), .inl (g 0, 5, .inl (upd (upd (upd (upd (upd (fun _ => 0) (0 : Int32).toNatClampNeg 0) (1 : Int32).toNatClampNeg 1) (2 : Int32).toNatClampNeg 4) (3 : Int32).toNatClampNeg 0) (4 : Int32).toNatClampNeg 2))), ((u_8 2), .inr (1, [.int 0, .ref (g 10), .int 0])), ((u_8 1), .inr (1, [.int 1, .ref (u_8 3), .int 1])), ((u_8 3), .inl (g 5, 10, .inr (.inr (.inr (.inr (va_up (fun _ => none) 0 (some (u_8 4)))))))), ((u_8 4), .inr (1, [.int 0, .ref (g 10), .int 0])), ((b 0), .inr (15, [.int (cd (TOKb (nI jx)) (rngb k 0 3) true), .ref (b 1), .ref (b 2), .int 0, .ref (b 3), .ref (b 4), .ref (b 5), .null, .ref (b 6), .int 0, .int 0, .int 0, .int 0, .int 0])), ((r1 jx), .inl (g 0, 0, .inl (fun _ => 0))), ((b 5), .inl (g 0, 5, .inl stf)), (q_10, .inl (g 0, 4, .inl (upd (fun _ => 0) (0 : Int32).toNatClampNeg 0)))] := hD
    refine lv_dup hx hb dX13_plan_60 rfl ?_
    refine lv_iconst (v := 1) hx hb dX13_plan_61 (by decide) ?_
    refine lv_aload_n hx hb dX13_plan_62 rfl (lv_at hl 1 rfl) ?_
    refine va_getN (D := (dC, dI)) (ci := 14) (v := .int 0) (C := RX12) (T := TX12) (N := 12) hx hb hts hiX12 hown hK hP 3 rfl rfl 7 (by decide) (nf_64 hG) (fun _ h9 => h9) rfl dX13_plan_63 ?_
    refine lv_iload hx hb dX13_plan_66 (lv_at hl 0 rfl) ?_
    refine lv_isub hx hb dX13_plan_68 ?_
    refine lv_topi (fun x_15 ex_15 => ?_)
    obtain rfl : x_15 = 0 := ex_15.trans (by decide)
    refine va_iast hx hb hK hP hD hS 12 0 rfl rfl (by unfold vp_in; decide) dX13_plan_69 (fun H_16 L_17 hP hD hS => ?_)
    have hP : va_P (dC, dI) vwCl [((b 3), .inl (g 4, 8, .inr (.inr (.inr (.inr (fun i => if i < 8 then some (r1 i) else none)))))), ((b 1), .inl (g 0, 200, .inl (fun _ => 0))), ((b 2), .inl (g 0, 200, .inl (fun _ => 0))), (q_6, .inr (14, [.ref (u_8 0), .int 0, .int 0, .ref (u_8 1), .ref (u_8 2), .int 0, .int 0, .int 0, .int 0, .int 0, .int 0, .ref (b 0)])), ((u_8 0), .inl (g 0, 5, .inl (upd (upd (upd (upd (upd (fun _ => 0) (0 : Int32).toNatClampNeg 0) (1 : Int32).toNatClampNeg 1) (2 : Int32).toNatClampNeg 4) (3 : Int32).toNatClampNeg 0) (4 : Int32).toNatClampNeg 2))), ((u_8 2), .inr (1, [.int 0, .ref (g 10), .int 0])), ((u_8 1), .inr (1, [.int 1, .ref (u_8 3), .int 1])), ((u_8 3), .inl (g 5, 10, .inr (.inr (.inr (.inr (va_up (fun _ => none) 0 (some (u_8 4)))))))), ((u_8 4), .inr (1, [.int 0, .ref (g 10), .int 0])), ((b 0), .inr (15, [.int (cd (TOKb (nI jx)) (rngb k 0 3) true), .ref (b 1), .ref (b 2), .int 0, .ref (b 3), .ref (b 4), .ref (b 5), .null, .ref (b 6), .int 0, .int 0, .int 0, .int 0, .int 0])), ((r1 jx), .inl (g 0, 0, .inl (fun _ => 0))), ((b 5), .inl (g 0, 5, .inl stf)), (q_10, .inl (g 0, 4, .inl (upd (upd (fun _ => 0) (0 : Int32).toNatClampNeg 0) (1 : Int32).toNatClampNeg 0)))] H_16 := hP
    have hD : va_D A [((b 3), .inl (g 4, 8, .inr (.inr (.inr (.inr (fun i => if i < 8 then some (r1 i) else none)))))), ((b 1), .inl (g 0, 200, .inl (fun _ => 0))), ((b 2), .inl (g 0, 200, .inl (fun _ => 0))), (q_6, .inr (14, [.ref (u_8 0), .int 0, .int 0, .ref (u_8 1), .ref (u_8 2), .int 0, .int 0, .int 0, .int 0, .int 0, .int 0, .ref (b 0)])), ((u_8 0), .inl (g 0, 5, .inl (upd (upd (upd (upd (upd (fun _ => 0) (0 : Int32).toNatClampNeg 0) (1 : Int32).toNatClampNeg 1) (2 : Int32).toNatClampNeg 4) (3 : Int32).toNatClampNeg 0) (4 : Int32).toNatClampNeg 2))), ((u_8 2), .inr (1, [.int 0, .ref (g 10), .int 0])), ((u_8 1), .inr (1, [.int 1, .ref (u_8 3), .int 1])), ((u_8 3), .inl (g 5, 10, .inr (.inr (.inr (.inr (va_up (fun _ => none) 0 (some (u_8 4)))))))), ((u_8 4), .inr (1, [.int 0, .ref (g 10), .int 0])), ((b 0), .inr (15, [.int (cd (TOKb (nI jx)) (rngb k 0 3) true), .ref (b 1), .ref (b 2), .int 0, .ref (b 3), .ref (b 4), .ref (b 5), .null, .ref (b 6), .int 0, .int 0, .int 0, .int 0, .int 0])), ((r1 jx), .inl (g 0, 0, .inl (fun _ => 0))), ((b 5), .inl (g 0, 5, .inl stf)), (q_10, .inl (g 0, 4, .inl (upd (upd (fun _ => 0) (0 : Int32).toNatClampNeg 0) (1 : Int32).toNatClampNeg 0)))] := hD
    refine lv_dup hx hb dX13_plan_70 rfl ?_
    refine lv_iconst (v := 2) hx hb dX13_plan_71 (by decide) ?_
    refine lv_aload_n hx hb dX13_plan_72 rfl (lv_at hl 1 rfl) ?_
    refine va_getN (D := (dC, dI)) (ci := 14) (v := .int 0) (C := RX12) (T := TX12) (N := 12) hx hb hts hiX12 hown hK hP 3 rfl rfl 6 (by decide) (nf_63 hG) (fun _ h9 => h9) rfl dX13_plan_73 ?_
    refine va_iast hx hb hK hP hD hS 12 0 rfl rfl (by unfold vp_in; decide) dX13_plan_76 (fun H_18 L_19 hP hD hS => ?_)
    have hP : va_P (dC, dI) vwCl [((b 3), .inl (g 4, 8, .inr (.inr (.inr (.inr (fun i => if i < 8 then some (r1 i) else none)))))), ((b 1), .inl (g 0, 200, .inl (fun _ => 0))), ((b 2), .inl (g 0, 200, .inl (fun _ => 0))), (q_6, .inr (14, [.ref (u_8 0), .int 0, .int 0, .ref (u_8 1), .ref (u_8 2), .int 0, .int 0, .int 0, .int 0, .int 0, .int 0, .ref (b 0)])), ((u_8 0), .inl (g 0, 5, .inl (upd (upd (upd (upd (upd (fun _ => 0) (0 : Int32).toNatClampNeg 0) (1 : Int32).toNatClampNeg 1) (2 : Int32).toNatClampNeg 4) (3 : Int32).toNatClampNeg 0) (4 : Int32).toNatClampNeg 2))), ((u_8 2), .inr (1, [.int 0, .ref (g 10), .int 0])), ((u_8 1), .inr (1, [.int 1, .ref (u_8 3), .int 1])), ((u_8 3), .inl (g 5, 10, .inr (.inr (.inr (.inr (va_up (fun _ => none) 0 (some (u_8 4)))))))), ((u_8 4), .inr (1, [.int 0, .ref (g 10), .int 0])), ((b 0), .inr (15, [.int (cd (TOKb (nI jx)) (rngb k 0 3) true), .ref (b 1), .ref (b 2), .int 0, .ref (b 3), .ref (b 4), .ref (b 5), .null, .ref (b 6), .int 0, .int 0, .int 0, .int 0, .int 0])), ((r1 jx), .inl (g 0, 0, .inl (fun _ => 0))), ((b 5), .inl (g 0, 5, .inl stf)), (q_10, .inl (g 0, 4, .inl (upd (upd (upd (fun _ => 0) (0 : Int32).toNatClampNeg 0) (1 : Int32).toNatClampNeg 0) (2 : Int32).toNatClampNeg 0)))] H_18 := hP
    have hD : va_D A [((b 3), .inl (g 4, 8, .inr (.inr (.inr (.inr (fun i => if i < 8 then some (r1 i) else none)))))), ((b 1), .inl (g 0, 200, .inl (fun _ => 0))), ((b 2), .inl (g 0, 200, .inl (fun _ => 0))), (q_6, .inr (14, [.ref (u_8 0), .int 0, .int 0, .ref (u_8 1), .ref (u_8 2), .int 0, .int 0, .int 0, .int 0, .int 0, .int 0, .ref (b 0)])), ((u_8 0), .inl (g 0, 5, .inl (upd (upd (upd (upd (upd (fun _ => 0) (0 : Int32).toNatClampNeg 0) (1 : Int32).toNatClampNeg 1) (2 : Int32).toNatClampNeg 4) (3 : Int32).toNatClampNeg 0) (4 : Int32).toNatClampNeg 2))), ((u_8 2), .inr (1, [.int 0, .ref (g 10), .int 0])), ((u_8 1), .inr (1, [.int 1, .ref (u_8 3), .int 1])), ((u_8 3), .inl (g 5, 10, .inr (.inr (.inr (.inr (va_up (fun _ => none) 0 (some (u_8 4)))))))), ((u_8 4), .inr (1, [.int 0, .ref (g 10), .int 0])), ((b 0), .inr (15, [.int (cd (TOKb (nI jx)) (rngb k 0 3) true), .ref (b 1), .ref (b 2), .int 0, .ref (b 3), .ref (b 4), .ref (b 5), .null, .ref (b 6), .int 0, .int 0, .int 0, .int 0, .int 0])), ((r1 jx), .inl (g 0, 0, .inl (fun _ => 0))), ((b 5), .inl (g 0, 5, .inl stf)), (q_10, .inl (g 0, 4, .inl (upd (upd (upd (fun _ => 0) (0 : Int32).toNatClampNeg 0) (1 : Int32).toNatClampNeg 0) (2 : Int32).toNatClampNeg 0)))] := hD
    refine lv_dup hx hb dX13_plan_77 rfl ?_
    refine lv_iconst (v := 3) hx hb dX13_plan_78 (by decide) ?_
    refine lv_aload_n hx hb dX13_plan_79 rfl (lv_at hl 1 rfl) ?_
    refine va_getN (D := (dC, dI)) (ci := 14) (v := .int 0) (C := RX12) (T := TX12) (N := 12) hx hb hts hiX12 hown hK hP 3 rfl rfl 2 (by decide) (nf_61 hG) (fun _ h9 => h9) rfl dX13_plan_80 ?_
    refine va_iast hx hb hK hP hD hS 12 0 rfl rfl (by unfold vp_in; decide) dX13_plan_83 (fun H_20 L_21 hP hD hS => ?_)
    have hP : va_P (dC, dI) vwCl [((b 3), .inl (g 4, 8, .inr (.inr (.inr (.inr (fun i => if i < 8 then some (r1 i) else none)))))), ((b 1), .inl (g 0, 200, .inl (fun _ => 0))), ((b 2), .inl (g 0, 200, .inl (fun _ => 0))), (q_6, .inr (14, [.ref (u_8 0), .int 0, .int 0, .ref (u_8 1), .ref (u_8 2), .int 0, .int 0, .int 0, .int 0, .int 0, .int 0, .ref (b 0)])), ((u_8 0), .inl (g 0, 5, .inl (upd (upd (upd (upd (upd (fun _ => 0) (0 : Int32).toNatClampNeg 0) (1 : Int32).toNatClampNeg 1) (2 : Int32).toNatClampNeg 4) (3 : Int32).toNatClampNeg 0) (4 : Int32).toNatClampNeg 2))), ((u_8 2), .inr (1, [.int 0, .ref (g 10), .int 0])), ((u_8 1), .inr (1, [.int 1, .ref (u_8 3), .int 1])), ((u_8 3), .inl (g 5, 10, .inr (.inr (.inr (.inr (va_up (fun _ => none) 0 (some (u_8 4)))))))), ((u_8 4), .inr (1, [.int 0, .ref (g 10), .int 0])), ((b 0), .inr (15, [.int (cd (TOKb (nI jx)) (rngb k 0 3) true), .ref (b 1), .ref (b 2), .int 0, .ref (b 3), .ref (b 4), .ref (b 5), .null, .ref (b 6), .int 0, .int 0, .int 0, .int 0, .int 0])), ((r1 jx), .inl (g 0, 0, .inl (fun _ => 0))), ((b 5), .inl (g 0, 5, .inl stf)), (q_10, .inl (g 0, 4, .inl (upd (upd (upd (upd (fun _ => 0) (0 : Int32).toNatClampNeg 0) (1 : Int32).toNatClampNeg 0) (2 : Int32).toNatClampNeg 0) (3 : Int32).toNatClampNeg 0)))] H_20 := hP
    have hD : va_D A [((b 3), .inl (g 4, 8, .inr (.inr (.inr (.inr (fun i => if i < 8 then some (r1 i) else none)))))), ((b 1), .inl (g 0, 200, .inl (fun _ => 0))), ((b 2), .inl (g 0, 200, .inl (fun _ => 0))), (q_6, .inr (14, [.ref (u_8 0), .int 0, .int 0, .ref (u_8 1), .ref (u_8 2), .int 0, .int 0, .int 0, .int 0, .int 0, .int 0, .ref (b 0)])), ((u_8 0), .inl (g 0, 5, .inl (upd (upd (upd (upd (upd (fun _ => 0) (0 : Int32).toNatClampNeg 0) (1 : Int32).toNatClampNeg 1) (2 : Int32).toNatClampNeg 4) (3 : Int32).toNatClampNeg 0) (4 : Int32).toNatClampNeg 2))), ((u_8 2), .inr (1, [.int 0, .ref (g 10), .int 0])), ((u_8 1), .inr (1, [.int 1, .ref (u_8 3), .int 1])), ((u_8 3), .inl (g 5, 10, .inr (.inr (.inr (.inr (va_up (fun _ => none) 0 (some (u_8 4)))))))), ((u_8 4), .inr (1, [.int 0, .ref (g 10), .int 0])), ((b 0), .inr (15, [.int (cd (TOKb (nI jx)) (rngb k 0 3) true), .ref (b 1), .ref (b 2), .int 0, .ref (b 3), .ref (b 4), .ref (b 5), .null, .ref (b 6), .int 0, .int 0, .int 0, .int 0, .int 0])), ((r1 jx), .inl (g 0, 0, .inl (fun _ => 0))), ((b 5), .inl (g 0, 5, .inl stf)), (q_10, .inl (g 0, 4, .inl (upd (upd (upd (upd (fun _ => 0) (0 : Int32).toNatClampNeg 0) (1 : Int32).toNatClampNeg 0) (2 : Int32).toNatClampNeg 0) (3 : Int32).toNatClampNeg 0)))] := hD
    refine lv_astore (lv' := [(5, .ref q_10), (4, .int 0), (3, .ref q_6), (0, .ref (b 0)), (1, .int (nI jx)), (2, .int k)]) hx hb dX13_plan_84 hl (by decide) rfl (fun ls hl => ?_)
    refine lv_aload hx hb dX13_plan_86 (lv_at hl 0 rfl) ?_
    refine lv_iload_n hx hb dX13_plan_88 rfl (lv_at hl 5 rfl) ?_
    refine va_iald hx hb hK hP 12 0 rfl rfl (vin_r3 (Bool.and_eq_true_iff.mp hB_5).2) dX13_plan_89 ?_
    refine lv_topi (fun x_22 ex_22 => ?_)
    refine W.widen (k := 40) (n := 200) (by omega) (by omega) ?_
    have hcd : (cd (TOKb (nI jx)) (rngb k 0 3) true) = (cd (TOKb (nI jx)) (rngb k 0 3) true) := rfl
    have hP8 := hP.sub (ws' := [((b 0), .inr (15, [.int (cd (TOKb (nI jx)) (rngb k 0 3) true), .ref (b 1), .ref (b 2), .int 0, .ref (b 3), .ref (b 4), .ref (b 5), .null, .ref (b 6), .int 0, .int 0, .int 0, .int 0, .int 0]))]) [9] rfl
    rw [hcd] at hP8
    exact W.iret (v := x_22) hx hb hr (fun t ht hW => ⟨⟨x_22, (), rfl, (fun _ => ex_22.trans (by simp [upd])), ⟨[.ref (b 1), .ref (b 2), .int 0, .ref (b 3), .ref (b 4), .ref (b 5), .null, .ref (b 6), .int 0, .int 0, .int 0, .int 0, .int 0], P_at ht hP8⟩⟩, hS.F ht⟩) hS.2.2 dX13_plan_90
  · have hB_5 : (TOKb x && rngb k 0 3) = false := b2i_0 c_4
    refine lv_iconst (v := 0) hx hb dX13_plan_18 (by decide) ?_
    refine W.widen (k := 40) (n := 200) (by omega) (by omega) ?_
    have hcd : (cd (TOKb x) (rngb k 0 3) true) = (cd (TOKb x) (rngb k 0 3) true) := rfl
    have hP8 := hP.sub (ws' := [((b 0), .inr (15, [.int (cd (TOKb x) (rngb k 0 3) true), .ref (b 1), .ref (b 2), .int 0, .ref (b 3), .ref (b 4), .ref (b 5), .null, .ref (b 6), .int 0, .int 0, .int 0, .int 0, .int 0]))]) [0] rfl
    rw [hcd] at hP8
    exact W.iret (v := 0) hx hb hr (fun t ht hW => ⟨⟨0, (), rfl, (fun h => by first | rfl | (exact absurd (cd_0.mp h) (by simp [hB_5]))), ⟨[.ref (b 1), .ref (b 2), .int 0, .ref (b 3), .ref (b 4), .ref (b 5), .null, .ref (b 6), .int 0, .int 0, .int 0, .int 0, .int 0], P_at ht hP8⟩⟩, hS.F ht⟩) hS.2.2 dX13_plan_19
set_option maxHeartbeats 4000000 in
set_option maxRecDepth 100000 in
theorem c_X13_ends (l : Launch) (dC : Nat → ClassId) (dI : Nat → Nat → Nat) (g : Nat → ClassId) (b : Nat → Nat) (r1 : Nat → Nat) (r2 : Nat → Nat) (t : Nat) (byy : Nat) (rows : Nat) (made : Nat) (tb : Nat) (l1 : Nat) (jy : Nat) (th : Int32) (hjy : jy < 8) (sz : Nat) : Met l yX13_ends wsX13_ends ({ frames := 5, cells := 1, slots := 0, locals := 106 }) (va_Pc [.ref (b 0)] (PG (dC, dI) g [((b 0), .inr (15, [.int th, .ref (b 1), .ref (b 2), .int 0, .ref (b 3), .ref (b 4), .ref (b 5), .ref t, .ref (b 6), .int 0, .int 0, .int 0, .int 0, .int 0])), ((b 3), .inl (g 4, 8, .inr (.inr (.inr (.inr (fun i => if i < 8 then some (r1 i) else none)))))), (t, .inr (14, [.ref byy, .int (nI jy), .int 0, .ref rows, .ref made, .int 0, .int 0, .int 0, .int 0, .int 0, .int 0, .ref (b 0)])), (rows, .inr (1, [.int 1, .ref tb, .int 1])), (tb, .inl (g 5, 10, .inr (.inr (.inr (.inr (va_up (fun _ => none) 0 (some l1))))))), (l1, .inr (1, [.int 0, .ref (g 10), .int 0]))] sz)) (va_Qv (fun (_ : Nat → Nat) => True) (fun (u : Nat → Nat) t9 => va_P (dC, dI) vwCl [((b 0), .inr (15, [.int th, .ref (b 1), .ref (b 2), .int 0, .ref (b 3), .ref (b 4), .ref (b 5), .ref t, .ref (b 6), .int 0, .int 0, .int 0, .int 0, .int 0]))] t9.heap ∧ va_D (va_A [((b 0), .inr (15, [.int th, .ref (b 1), .ref (b 2), .int 0, .ref (b 3), .ref (b 4), .ref (b 5), .ref t, .ref (b 6), .int 0, .int 0, .int 0, .int 0, .int 0])), ((b 3), .inl (g 4, 8, .inr (.inr (.inr (.inr (fun i => if i < 8 then some (r1 i) else none)))))), (t, .inr (14, [.ref byy, .int (nI jy), .int 0, .ref rows, .ref made, .int 0, .int 0, .int 0, .int 0, .int 0, .int 0, .ref (b 0)])), (rows, .inr (1, [.int 1, .ref tb, .int 1])), (tb, .inl (g 5, 10, .inr (.inr (.inr (.inr (va_up (fun _ => none) 0 (some l1))))))), (l1, .inr (1, [.int 0, .ref (g 10), .int 0]))] sz) [((b 0), .inr (15, [.int th, .ref (b 1), .ref (b 2), .int 0, .ref (b 3), .ref (b 4), .ref (b 5), .ref t, .ref (b 6), .int 0, .int 0, .int 0, .int 0, .int 0]))]) (va_A [((b 0), .inr (15, [.int th, .ref (b 1), .ref (b 2), .int 0, .ref (b 3), .ref (b 4), .ref (b 5), .ref t, .ref (b 6), .int 0, .int 0, .int 0, .int 0, .int 0])), ((b 3), .inl (g 4, 8, .inr (.inr (.inr (.inr (fun i => if i < 8 then some (r1 i) else none)))))), (t, .inr (14, [.ref byy, .int (nI jy), .int 0, .ref rows, .ref made, .int 0, .int 0, .int 0, .int 0, .int 0, .int 0, .ref (b 0)])), (rows, .inr (1, [.int 1, .ref tb, .int 1])), (tb, .inl (g 5, 10, .inr (.inr (.inr (.inr (va_up (fun _ => none) 0 (some l1))))))), (l1, .inr (1, [.int 0, .ref (g 10), .int 0]))] sz)) 1 0 (va_A [((b 0), .inr (15, [.int th, .ref (b 1), .ref (b 2), .int 0, .ref (b 3), .ref (b 4), .ref (b 5), .ref t, .ref (b 6), .int 0, .int 0, .int 0, .int 0, .int 0])), ((b 3), .inl (g 4, 8, .inr (.inr (.inr (.inr (fun i => if i < 8 then some (r1 i) else none)))))), (t, .inr (14, [.ref byy, .int (nI jy), .int 0, .ref rows, .ref made, .int 0, .int 0, .int 0, .int 0, .int 0, .int 0, .ref (b 0)])), (rows, .inr (1, [.int 1, .ref tb, .int 1])), (tb, .inl (g 5, 10, .inr (.inr (.inr (.inr (va_up (fun _ => none) 0 (some l1))))))), (l1, .inr (1, [.int 0, .ref (g 10), .int 0]))] sz) := by
  refine Met.ofW (cc := cX13_ends) (maxL := 1) (ret := none) (by decide) rfl ?_
  intro p e s m args below meth c s₁ B hml hv
  obtain ⟨rfl, hsz, hP, hK, hD0, hG⟩ := hv
  have hx := B.exec
  have hb := B.bytes
  have hr := B.returns
  have hts := atoms_spec (ws := wsX13_ends) B.pre
  have hown : s.vm.findClass RX13 = some m.cls := findClass_of_methodNamed B.named
  have hlocks := B.notSynchronized
  subst hsz
  have hD := hD0.self (sz := s.heap.size)
  generalize hAe : va_A [((b 0), .inr (15, [.int th, .ref (b 1), .ref (b 2), .int 0, .ref (b 3), .ref (b 4), .ref (b 5), .ref t, .ref (b 6), .int 0, .int 0, .int 0, .int 0, .int 0])), ((b 3), .inl (g 4, 8, .inr (.inr (.inr (.inr (fun i => if i < 8 then some (r1 i) else none)))))), (t, .inr (14, [.ref byy, .int (nI jy), .int 0, .ref rows, .ref made, .int 0, .int 0, .int 0, .int 0, .int 0, .int 0, .ref (b 0)])), (rows, .inr (1, [.int 1, .ref tb, .int 1])), (tb, .inl (g 5, 10, .inr (.inr (.inr (.inr (va_up (fun _ => none) 0 (some l1))))))), (l1, .inr (1, [.int 0, .ref (g 10), .int 0]))] s.heap.size = A at hD hG ⊢
  have hA : ∀ q : Nat, s.heap.size ≤ q → A q := fun q h => by rw [← hAe]; exact Or.inr h
  have hS : va_S A s.heap s.heap [] := va_S.rf
  have hl := lv_entry ([.ref (b 0)]) (n := 1) (Nat.le_of_ble_eq_true rfl)
  rw [lg_entry_eq]
  generalize (lg_sl ([.ref (b 0)]) ++ List.replicate (1 - (lg_sl ([.ref (b 0)])).length) Slot.unset).toArray = ls at hl ⊢
  have hl : lv_has ls 1 [(0, .ref (b 0))] := hl
  have hf166 := hts (Cond.fieldLink RX13 166 "RunmergeOfficeModel" "job" "LRunmergeOfficeModel$Job;") (by decide +kernel)
  have hiX13 : ∀ w ∈ u_ws RX13 TX13 14, w ∈ wsX13_ends := by decide +kernel
  have hf29 := hts (Cond.fieldLink RX13 29 "RunmergeOfficeModel" "tapes" "[[I") (by decide +kernel)
  have hiX12 : ∀ w ∈ u_ws RX12 TX12 12, w ∈ wsX13_ends := by decide +kernel
  refine lv_aload_n hx hb dX13_ends_0 rfl (lv_at hl 0 rfl) ?_
  refine va_get (D := (dC, dI)) (ci := 15) (v := .ref t) (C := RX13) (T := TX13) (N := 14) hx hb hts hiX13 hown hK hP 0 rfl rfl 7 (by decide) hf166 (fun _ h9 => h9) rfl dX13_ends_1 ?_
  refine va_calli (va_runV (As := []) (rest := []) ⟨hx, hb, hml, hown, hts⟩ (c_X12_isOver_0 l dC dI g [((b 0), .inr (15, [.int th, .ref (b 1), .ref (b 2), .int 0, .ref (b 3), .ref (b 4), .ref (b 5), .ref t, .ref (b 6), .int 0, .int 0, .int 0, .int 0, .int 0])), ((b 3), .inl (g 4, 8, .inr (.inr (.inr (.inr (fun i => if i < 8 then some (r1 i) else none)))))), (t, .inr (14, [.ref byy, .int (nI jy), .int 0, .ref rows, .ref made, .int 0, .int 0, .int 0, .int 0, .int 0, .int 0, .ref (b 0)])), (rows, .inr (1, [.int 1, .ref tb, .int 1])), (tb, .inl (g 5, 10, .inr (.inr (.inr (.inr (va_up (fun _ => none) 0 (some l1))))))), (l1, .inr (1, [.int 0, .ref (g 10), .int 0]))] t byy rows made (b 0) tb l1 (nI jy) 2 rfl 3 rfl 4 rfl 5 rfl  s.heap.size) (cwV 0 hts gX13_ends_X12_isOver rfl rfl rfl (by decide +kernel) ⟨Nat.le_of_ble_eq_true rfl, Nat.le_of_ble_eq_true rfl⟩) ⟨PG_blind, va_recv hK hP (ci := 14) (q0 := 2) rfl rfl, PG_call hK hG hS hP hD (A_all hD hA hS.1)⟩ rfl rfl hl.1 rfl (lv_room (Nat.le_of_ble_eq_true rfl)) dX13_ends_4 ⟨Nat.le_of_ble_eq_true rfl, Nat.le_of_ble_eq_true rfl⟩) hS (fun q _ h => (A_all hD hA hS.1) q h) (A_all hD hA hS.1) (fun r_1 u_1 t_1 H_1 L_1 ht_1 hvm_1 hw_1 hB_1 hz_1 hk_1 hS => ?_)
  replace hB_1 := (show va_P (dC, dI) vwCl [((b 0), .inr (15, [.int th, .ref (b 1), .ref (b 2), .int 0, .ref (b 3), .ref (b 4), .ref (b 5), .ref t, .ref (b 6), .int 0, .int 0, .int 0, .int 0, .int 0])), ((b 3), .inl (g 4, 8, .inr (.inr (.inr (.inr (fun i => if i < 8 then some (r1 i) else none)))))), (t, .inr (14, [.ref byy, .int (nI jy), .int 0, .ref rows, .ref made, .int 0, .int 0, .int 0, .int 0, .int 0, .int 0, .ref (b 0)])), (rows, .inr (1, [.int 1, .ref tb, .int 1])), (tb, .inl (g 5, 10, .inr (.inr (.inr (.inr (va_up (fun _ => none) 0 (some l1))))))), (l1, .inr (1, [.int 0, .ref (g 10), .int 0]))] t_1.heap from hB_1)
  rw [ht_1] at hB_1
  have hP := hB_1
  obtain rfl : r_1 = 1 := hw_1
  refine lv_if_eq (tgt := 29) hx hb dX13_ends_7 (by decide) (fun c_2 => absurd c_2 (by decide)) (fun c_2 => ?_)
  refine lv_aload_n hx hb dX13_ends_10 rfl (lv_at hl 0 rfl) ?_
  refine va_get (D := (dC, dI)) (ci := 15) (v := .ref (b 3)) (C := RX13) (T := TX13) (N := 14) hx hb hts hiX13 hown hK hP 0 rfl rfl 4 (by decide) hf29 (fun _ h9 => h9) rfl dX13_ends_11 ?_
  refine lv_aload_n hx hb dX13_ends_14 rfl (lv_at hl 0 rfl) ?_
  refine va_get (D := (dC, dI)) (ci := 15) (v := .ref t) (C := RX13) (T := TX13) (N := 14) hx hb hts hiX13 hown hK hP 0 rfl rfl 7 (by decide) hf166 (fun _ h9 => h9) rfl dX13_ends_15 ?_
  refine va_getN (D := (dC, dI)) (ci := 14) (v := .int (nI jy)) (C := RX12) (T := TX12) (N := 12) hx hb hts hiX12 hown hK hP 2 rfl rfl 1 (by decide) (nf_60 hG) (fun _ h9 => h9) rfl dX13_ends_18 ?_
  refine lv_aload_n hx hb dX13_ends_21 rfl (lv_at hl 0 rfl) ?_
  refine va_get (D := (dC, dI)) (ci := 15) (v := .ref t) (C := RX13) (T := TX13) (N := 14) hx hb hts hiX13 hown hK hP 0 rfl rfl 7 (by decide) hf166 (fun _ h9 => h9) rfl dX13_ends_22 ?_
  have hPc := hP.sub (ws' := [(t, .inr (14, [.ref byy, .int (nI jy), .int 0, .ref rows, .ref made, .int 0, .int 0, .int 0, .int 0, .int 0, .int 0, .ref (b 0)])), (rows, .inr (1, [.int 1, .ref tb, .int 1])), (tb, .inl (g 5, 10, .inr (.inr (.inr (.inr (va_up (fun _ => none) 0 (some l1))))))), (l1, .inr (1, [.int 0, .ref (g 10), .int 0]))]) [2, 3, 4, 5] rfl
  have hDc := hD.sub (ws' := [(t, .inr (14, [.ref byy, .int (nI jy), .int 0, .ref rows, .ref made, .int 0, .int 0, .int 0, .int 0, .int 0, .int 0, .ref (b 0)])), (rows, .inr (1, [.int 1, .ref tb, .int 1])), (tb, .inl (g 5, 10, .inr (.inr (.inr (.inr (va_up (fun _ => none) 0 (some l1))))))), (l1, .inr (1, [.int 0, .ref (g 10), .int 0]))]) [2, 3, 4, 5] (by decide) rfl
  have hFc := va_free (wc := [(t, .inr (14, [.ref byy, .int (nI jy), .int 0, .ref rows, .ref made, .int 0, .int 0, .int 0, .int 0, .int 0, .int 0, .ref (b 0)])), (rows, .inr (1, [.int 1, .ref tb, .int 1])), (tb, .inl (g 5, 10, .inr (.inr (.inr (.inr (va_up (fun _ => none) 0 (some l1))))))), (l1, .inr (1, [.int 0, .ref (g 10), .int 0]))]) hD hS hA [2, 3, 4, 5] rfl
  refine va_callq (va_runV (As := []) (rest := [.int (nI jy), .ref (b 3)]) ⟨hx, hb, hml, hown, hts⟩ (c_X12_result_0 l dC dI g t byy rows made (b 0) tb l1 (nI jy)  H_1.size) (cwV 0 hts gX13_ends_X12_result rfl rfl rfl (by decide +kernel) ⟨Nat.le_of_ble_eq_true rfl, Nat.le_of_ble_eq_true rfl⟩) ⟨PG_blind, va_recv hK hP (ci := 14) (q0 := 2) rfl rfl, PG_call hK hG hS hPc hDc hFc⟩ rfl rfl hl.1 rfl (lv_room (Nat.le_of_ble_eq_true rfl)) dX13_ends_25 ⟨Nat.le_of_ble_eq_true rfl, Nat.le_of_ble_eq_true rfl⟩) hS (fun q _ h => hFc q h) hFc (fun r_3 u_3 t_3 H_3 L_3 ht_3 hvm_3 hw_3 hB_3 hz_3 hk_3 hS => ?_)
  obtain ⟨hP1, hD1⟩ := hB_3
  rw [ht_3] at hP1
  obtain ⟨hP, hD⟩ := va_join (wr := [((b 0), .inr (15, [.int th, .ref (b 1), .ref (b 2), .int 0, .ref (b 3), .ref (b 4), .ref (b 5), .ref t, .ref (b 6), .int 0, .int 0, .int 0, .int 0, .int 0])), ((b 3), .inl (g 4, 8, .inr (.inr (.inr (.inr (fun i => if i < 8 then some (r1 i) else none))))))]) (w1 := [(t, .inr (14, [.ref byy, .int (nI jy), .int 0, .ref rows, .ref made, .int 0, .int 0, .int 0, .int 0, .int 0, .int 0, .ref (b 0)])), (rows, .inr (1, [.int 1, .ref tb, .int 1])), (tb, .inl (g 5, 10, .inr (.inr (.inr (.inr (va_up (fun _ => none) 0 (some l1))))))), (l1, .inr (1, [.int 0, .ref (g 10), .int 0])), ((u_3 0), .inl (g 0, 0, .inl (fun _ => 0)))]) hP hD [2, 3, 4, 5] [0, 1] rfl rfl (by decide) (by decide) hk_3 hFc hP1 hD1
  have hP : va_P (dC, dI) vwCl [((b 0), .inr (15, [.int th, .ref (b 1), .ref (b 2), .int 0, .ref (b 3), .ref (b 4), .ref (b 5), .ref t, .ref (b 6), .int 0, .int 0, .int 0, .int 0, .int 0])), ((b 3), .inl (g 4, 8, .inr (.inr (.inr (.inr (fun i => if i < 8 then some (r1 i) else none)))))), (t, .inr (14, [.ref byy, .int (nI jy), .int 0, .ref rows, .ref made, .int 0, .int 0, .int 0, .int 0, .int 0, .int 0, .ref (b 0)])), (rows, .inr (1, [.int 1, .ref tb, .int 1])), (tb, .inl (g 5, 10, .inr (.inr (.inr (.inr (va_up (fun _ => none) 0 (some l1))))))), (l1, .inr (1, [.int 0, .ref (g 10), .int 0])), ((u_3 0), .inl (g 0, 0, .inl (fun _ => 0)))] H_3 := hP
  have hD : va_D A [((b 0), .inr (15, [.int th, .ref (b 1), .ref (b 2), .int 0, .ref (b 3), .ref (b 4), .ref (b 5), .ref t, .ref (b 6), .int 0, .int 0, .int 0, .int 0, .int 0])), ((b 3), .inl (g 4, 8, .inr (.inr (.inr (.inr (fun i => if i < 8 then some (r1 i) else none)))))), (t, .inr (14, [.ref byy, .int (nI jy), .int 0, .ref rows, .ref made, .int 0, .int 0, .int 0, .int 0, .int 0, .int 0, .ref (b 0)])), (rows, .inr (1, [.int 1, .ref tb, .int 1])), (tb, .inl (g 5, 10, .inr (.inr (.inr (.inr (va_up (fun _ => none) 0 (some l1))))))), (l1, .inr (1, [.int 0, .ref (g 10), .int 0])), ((u_3 0), .inl (g 0, 0, .inl (fun _ => 0)))] := hD
  refine W.widen (k := 1) (n := 0) (by omega) (by omega) ?_
  obtain rfl : r_3 = some (u_3 0) := hw_3
  refine W.eq (g2 := F0 m 28 ls [.ref (u_3 0), .int (nI jy), .ref (b 3)]) rfl ?_
  refine va_astA hx hb hK (ao_3 hG) hP hD hS 1 6 rfl rfl (vp_in_nI hjy (by decide)) dX13_ends_28 (fun H_4 L_5 hP hD hS => ?_)
  have hP : va_P (dC, dI) vwCl [((b 0), .inr (15, [.int th, .ref (b 1), .ref (b 2), .int 0, .ref (b 3), .ref (b 4), .ref (b 5), .ref t, .ref (b 6), .int 0, .int 0, .int 0, .int 0, .int 0])), ((b 3), .inl (g 4, 8, .inr (.inr (.inr (.inr (va_up (fun i => if i < 8 then some (r1 i) else none) (nI jy).toNatClampNeg (some (u_3 0)))))))), (t, .inr (14, [.ref byy, .int (nI jy), .int 0, .ref rows, .ref made, .int 0, .int 0, .int 0, .int 0, .int 0, .int 0, .ref (b 0)])), (rows, .inr (1, [.int 1, .ref tb, .int 1])), (tb, .inl (g 5, 10, .inr (.inr (.inr (.inr (va_up (fun _ => none) 0 (some l1))))))), (l1, .inr (1, [.int 0, .ref (g 10), .int 0])), ((u_3 0), .inl (g 0, 0, .inl (fun _ => 0)))] H_4 := hP
  have hD : va_D A [((b 0), .inr (15, [.int th, .ref (b 1), .ref (b 2), .int 0, .ref (b 3), .ref (b 4), .ref (b 5), .ref t, .ref (b 6), .int 0, .int 0, .int 0, .int 0, .int 0])), ((b 3), .inl (g 4, 8, .inr (.inr (.inr (.inr (va_up (fun i => if i < 8 then some (r1 i) else none) (nI jy).toNatClampNeg (some (u_3 0)))))))), (t, .inr (14, [.ref byy, .int (nI jy), .int 0, .ref rows, .ref made, .int 0, .int 0, .int 0, .int 0, .int 0, .int 0, .ref (b 0)])), (rows, .inr (1, [.int 1, .ref tb, .int 1])), (tb, .inl (g 5, 10, .inr (.inr (.inr (.inr (va_up (fun _ => none) 0 (some l1))))))), (l1, .inr (1, [.int 0, .ref (g 10), .int 0])), ((u_3 0), .inl (g 0, 0, .inl (fun _ => 0)))] := hD
  have hP9 := hP.sub (ws' := [((b 0), .inr (15, [.int th, .ref (b 1), .ref (b 2), .int 0, .ref (b 3), .ref (b 4), .ref (b 5), .ref t, .ref (b 6), .int 0, .int 0, .int 0, .int 0, .int 0]))]) [0] rfl
  have hD9 := hD.sub (ws' := [((b 0), .inr (15, [.int th, .ref (b 1), .ref (b 2), .int 0, .ref (b 3), .ref (b 4), .ref (b 5), .ref t, .ref (b 6), .int 0, .int 0, .int 0, .int 0, .int 0]))]) [0] (by decide) rfl
  exact W.vret hx hb hr (fun t ht hW => ⟨⟨(fun j => ([] : List Nat).getD j 0), rfl, trivial, ⟨P_at ht hP9, hD9⟩⟩, hS.F ht⟩) hS.2.2 dX13_ends_29
set_option maxHeartbeats 4000000 in
set_option maxRecDepth 100000 in
theorem c_X13_begin (l : Launch) (dC : Nat → ClassId) (dI : Nat → Nat → Nat) (g : Nat → ClassId) (b : Nat → Nat) (r1 : Nat → Nat) (r2 : Nat → Nat) (x : Int32) (y : Int32) (th : Int32) (sz : Nat) : Met l yX13_begin wsX13_begin ({ frames := 7, cells := 60, slots := 300, locals := 153 }) (va_Pc [.ref (b 0), .int x, .int y] (PG (dC, dI) g (modW b r1 r2 g th) sz)) (va_Qi (fun (r : Int32) (_ : Unit) => (cd (TOKb x && TOKb y) true true) = 0 → r = 0) (fun (_ : Unit) t => ∃ fs : List Value, va_P (dC, dI) vwCl [(b 0, .inr (15, .int (cd (TOKb x && TOKb y) true true) :: fs))] t.heap) (va_A (modW b r1 r2 g th) sz)) 60 300 (va_A (modW b r1 r2 g th) sz) := by
  refine Met.ofW (cc := cX13_begin) (maxL := 4) (ret := (some .int)) (by decide) rfl ?_
  intro p e s m args below meth c s₁ B hml hv
  obtain ⟨rfl, hsz, hP, hK, hD0, hG⟩ := hv
  have hx := B.exec
  have hb := B.bytes
  have hr := B.returns
  have hts := atoms_spec (ws := wsX13_begin) B.pre
  have hown : s.vm.findClass RX13 = some m.cls := findClass_of_methodNamed B.named
  have hlocks := B.notSynchronized
  subst hsz
  have hD := hD0.self (sz := s.heap.size)
  generalize hAe : va_A (modW b r1 r2 g th) s.heap.size = A at hD hG ⊢
  have hA : ∀ q : Nat, s.heap.size ≤ q → A q := fun q h => by rw [← hAe]; exact Or.inr h
  have hS : va_S A s.heap s.heap [] := va_S.rf
  have hl := lv_entry ([.ref (b 0), .int x, .int y]) (n := 4) (Nat.le_of_ble_eq_true rfl)
  rw [lg_entry_eq]
  generalize (lg_sl ([.ref (b 0), .int x, .int y]) ++ List.replicate (4 - (lg_sl ([.ref (b 0), .int x, .int y])).length) Slot.unset).toArray = ls at hl ⊢
  have hl : lv_has ls 4 [(0, .ref (b 0)), (1, .int x), (2, .int y)] := hl
  have hcl147 := hts (Cond.classLink RX13 147 RX12) (by decide +kernel)
  have hinX12 := hts (Cond.instantiable RX12 12) (by decide +kernel)
  have hiniX12 := hts (Cond.initialized RX12) (by decide +kernel)
  have hiX12 : ∀ w ∈ u_ws RX12 TX12 12, w ∈ wsX13_begin := by decide +kernel
  have hf29 := hts (Cond.fieldLink RX13 29 "RunmergeOfficeModel" "tapes" "[[I") (by decide +kernel)
  have hiX13 : ∀ w ∈ u_ws RX13 TX13 14, w ∈ wsX13_begin := by decide +kernel
  have hf35 := hts (Cond.fieldLink RX13 35 "RunmergeOfficeModel" "settings" "[I") (by decide +kernel)
  have himX12_init := hts (Cond.instanceMethod yX12_init) (by decide +kernel)
  have hml149 := hts (Cond.methodLink RX13 149 yX12_init) (by decide +kernel)
  have hf166 := hts (Cond.fieldLink RX13 166 "RunmergeOfficeModel" "job" "LRunmergeOfficeModel$Job;") (by decide +kernel)
  refine lv_aload_n hx hb dX13_begin_0 rfl (lv_at hl 0 rfl) ?_
  refine lv_iload_n hx hb dX13_begin_1 rfl (lv_at hl 1 rfl) ?_
  refine va_calli (va_runS (As := [.int x]) (rest := [.ref (b 0)]) ⟨hx, hb, hml, hown, hts⟩ (c_X13_isTape l dC dI g (modW b r1 r2 g th) x   s.heap.size) (va_cwS 1 hts gX13_begin_X13_isTape rfl rfl rfl (by decide +kernel) ⟨Nat.le_of_ble_eq_true rfl, Nat.le_of_ble_eq_true rfl⟩) ⟨PG_blind, PG_call hK hG hS hP hD (A_all hD hA hS.1)⟩ rfl rfl hl.1 rfl (lv_room (Nat.le_of_ble_eq_true rfl)) dX13_begin_2 ⟨Nat.le_of_ble_eq_true rfl, Nat.le_of_ble_eq_true rfl⟩) hS (fun q _ h => (A_all hD hA hS.1) q h) (A_all hD hA hS.1) (fun r_1 u_1 t_1 H_1 L_1 ht_1 hvm_1 hw_1 hB_1 hz_1 hk_1 hS => ?_)
  replace hB_1 := (show va_P (dC, dI) vwCl (modW b r1 r2 g th) t_1.heap from hB_1)
  rw [ht_1] at hB_1
  have hP := hB_1
  obtain rfl : r_1 = b2i (TOKb x) := hw_1
  refine lv_if_eq (tgt := 19) hx hb dX13_begin_5 (by decide) (fun c_2 => ?_) (fun c_2 => ?_)
  · have hB_3 : (TOKb x) = false := b2i_0 c_2
    refine lv_iconst (v := 0) hx hb dX13_begin_19 (by decide) ?_
    refine lv_iconst (v := 1) hx hb dX13_begin_20 (by decide) ?_
    refine lv_iconst (v := 1) hx hb dX13_begin_21 (by decide) ?_
    refine va_calli (va_runV (As := [.int 0, .int 1, .int 1]) (rest := []) ⟨hx, hb, hml, hown, hts⟩ (c_X13_passes l dC dI g b r1 r2 th false true true  H_1.size) (cwV 3 hts gX13_begin_X13_passes rfl rfl rfl (by decide +kernel) ⟨Nat.le_of_ble_eq_true rfl, Nat.le_of_ble_eq_true rfl⟩) ⟨PG_blind, va_recv hK hP (ci := 15) (q0 := 0) rfl (m_0 b r1 r2 g th), PG_call hK hG hS hP hD (A_all hD hA hS.1)⟩ rfl rfl hl.1 rfl (lv_room (Nat.le_of_ble_eq_true rfl)) dX13_begin_22 ⟨Nat.le_of_ble_eq_true rfl, Nat.le_of_ble_eq_true rfl⟩) hS (fun q _ h => (A_all hD hA hS.1) q h) (A_all hD hA hS.1) (fun r_4 u_4 t_4 H_4 L_4 ht_4 hvm_4 hw_4 hB_4 hz_4 hk_4 hS => ?_)
    rw [ht_4] at hB_4
    have hP : va_P (dC, dI) vwCl (modW b r1 r2 g (cd false true true)) H_4 := hB_4
    have hD : va_D A (modW b r1 r2 g (cd false true true)) := va_D_th hD
    obtain rfl : r_4 = 0 := hw_4.trans (by simp [b2i])
    refine lv_if_ne (tgt := 30) hx hb dX13_begin_25 (by decide) (fun c_5 => absurd (by decide) c_5) (fun c_5 => ?_)
    refine lv_iconst (v := 0) hx hb dX13_begin_28 (by decide) ?_
    refine W.widen (k := 60) (n := 300) (by omega) (by omega) ?_
    have hcd : (cd false true true) = (cd (TOKb x && TOKb y) true true) := by simp [cd, hB_3]
    have hP8 := hP.sub (ws' := [((b 0), .inr (15, [.int (cd false true true), .ref (b 1), .ref (b 2), .int 0, .ref (b 3), .ref (b 4), .ref (b 5), .null, .ref (b 6), .int 0, .int 0, .int 0, .int 0, .int 0]))]) [0] rfl
    rw [hcd] at hP8
    exact W.iret (v := 0) hx hb hr (fun t ht hW => ⟨⟨0, (), rfl, (fun h => by first | rfl | (exact absurd (cd_0.mp h) (by simp [hB_3]))), ⟨[.ref (b 1), .ref (b 2), .int 0, .ref (b 3), .ref (b 4), .ref (b 5), .null, .ref (b 6), .int 0, .int 0, .int 0, .int 0, .int 0], P_at ht hP8⟩⟩, hS.F ht⟩) hS.2.2 dX13_begin_29
  · have hB_3 : (TOKb x) = true := b2i_1 c_2
    obtain ⟨jx, hjx, rfl⟩ := TOK_ex hB_3
    refine lv_iload_n hx hb dX13_begin_8 rfl (lv_at hl 2 rfl) ?_
    refine va_calli (va_runS (As := [.int y]) (rest := [.ref (b 0)]) ⟨hx, hb, hml, hown, hts⟩ (c_X13_isTape l dC dI g (modW b r1 r2 g th) y   H_1.size) (va_cwS 1 hts gX13_begin_X13_isTape rfl rfl rfl (by decide +kernel) ⟨Nat.le_of_ble_eq_true rfl, Nat.le_of_ble_eq_true rfl⟩) ⟨PG_blind, PG_call hK hG hS hP hD (A_all hD hA hS.1)⟩ rfl rfl hl.1 rfl (lv_room (Nat.le_of_ble_eq_true rfl)) dX13_begin_9 ⟨Nat.le_of_ble_eq_true rfl, Nat.le_of_ble_eq_true rfl⟩) hS (fun q _ h => (A_all hD hA hS.1) q h) (A_all hD hA hS.1) (fun r_6 u_6 t_6 H_6 L_6 ht_6 hvm_6 hw_6 hB_6 hz_6 hk_6 hS => ?_)
    replace hB_6 := (show va_P (dC, dI) vwCl (modW b r1 r2 g th) t_6.heap from hB_6)
    rw [ht_6] at hB_6
    have hP := hB_6
    obtain rfl : r_6 = b2i (TOKb y) := hw_6
    refine lv_if_eq (tgt := 19) hx hb dX13_begin_12 (by decide) (fun c_7 => ?_) (fun c_7 => ?_)
    · have hB_8 : (TOKb y) = false := b2i_0 c_7
      refine lv_iconst (v := 0) hx hb dX13_begin_19 (by decide) ?_
      refine lv_iconst (v := 1) hx hb dX13_begin_20 (by decide) ?_
      refine lv_iconst (v := 1) hx hb dX13_begin_21 (by decide) ?_
      refine va_calli (va_runV (As := [.int 0, .int 1, .int 1]) (rest := []) ⟨hx, hb, hml, hown, hts⟩ (c_X13_passes l dC dI g b r1 r2 th false true true  H_6.size) (cwV 3 hts gX13_begin_X13_passes rfl rfl rfl (by decide +kernel) ⟨Nat.le_of_ble_eq_true rfl, Nat.le_of_ble_eq_true rfl⟩) ⟨PG_blind, va_recv hK hP (ci := 15) (q0 := 0) rfl (m_0 b r1 r2 g th), PG_call hK hG hS hP hD (A_all hD hA hS.1)⟩ rfl rfl hl.1 rfl (lv_room (Nat.le_of_ble_eq_true rfl)) dX13_begin_22 ⟨Nat.le_of_ble_eq_true rfl, Nat.le_of_ble_eq_true rfl⟩) hS (fun q _ h => (A_all hD hA hS.1) q h) (A_all hD hA hS.1) (fun r_9 u_9 t_9 H_9 L_9 ht_9 hvm_9 hw_9 hB_9 hz_9 hk_9 hS => ?_)
      rw [ht_9] at hB_9
      have hP : va_P (dC, dI) vwCl (modW b r1 r2 g (cd false true true)) H_9 := hB_9
      have hD : va_D A (modW b r1 r2 g (cd false true true)) := va_D_th hD
      obtain rfl : r_9 = 0 := hw_9.trans (by simp [b2i])
      refine lv_if_ne (tgt := 30) hx hb dX13_begin_25 (by decide) (fun c_10 => absurd (by decide) c_10) (fun c_10 => ?_)
      refine lv_iconst (v := 0) hx hb dX13_begin_28 (by decide) ?_
      refine W.widen (k := 60) (n := 300) (by omega) (by omega) ?_
      have hcd : (cd false true true) = (cd (TOKb (nI jx) && TOKb y) true true) := by simp [cd, (TOK_j hjx rfl), hB_8]
      have hP8 := hP.sub (ws' := [((b 0), .inr (15, [.int (cd false true true), .ref (b 1), .ref (b 2), .int 0, .ref (b 3), .ref (b 4), .ref (b 5), .null, .ref (b 6), .int 0, .int 0, .int 0, .int 0, .int 0]))]) [0] rfl
      rw [hcd] at hP8
      exact W.iret (v := 0) hx hb hr (fun t ht hW => ⟨⟨0, (), rfl, (fun h => by first | rfl | (exact absurd (cd_0.mp h) (by simp [(TOK_j hjx rfl), hB_8]))), ⟨[.ref (b 1), .ref (b 2), .int 0, .ref (b 3), .ref (b 4), .ref (b 5), .null, .ref (b 6), .int 0, .int 0, .int 0, .int 0, .int 0], P_at ht hP8⟩⟩, hS.F ht⟩) hS.2.2 dX13_begin_29
    · have hB_8 : (TOKb y) = true := b2i_1 c_7
      obtain ⟨jy, hjy, rfl⟩ := TOK_ex hB_8
      refine lv_iconst (v := 1) hx hb dX13_begin_15 (by decide) ?_
      refine lv_goto (tgt := 20) hx hb dX13_begin_16 (by decide) ?_
      refine lv_iconst (v := 1) hx hb dX13_begin_20 (by decide) ?_
      refine lv_iconst (v := 1) hx hb dX13_begin_21 (by decide) ?_
      refine va_calli (va_runV (As := [.int 1, .int 1, .int 1]) (rest := []) ⟨hx, hb, hml, hown, hts⟩ (c_X13_passes l dC dI g b r1 r2 th true true true  H_6.size) (cwV 3 hts gX13_begin_X13_passes rfl rfl rfl (by decide +kernel) ⟨Nat.le_of_ble_eq_true rfl, Nat.le_of_ble_eq_true rfl⟩) ⟨PG_blind, va_recv hK hP (ci := 15) (q0 := 0) rfl (m_0 b r1 r2 g th), PG_call hK hG hS hP hD (A_all hD hA hS.1)⟩ rfl rfl hl.1 rfl (lv_room (Nat.le_of_ble_eq_true rfl)) dX13_begin_22 ⟨Nat.le_of_ble_eq_true rfl, Nat.le_of_ble_eq_true rfl⟩) hS (fun q _ h => (A_all hD hA hS.1) q h) (A_all hD hA hS.1) (fun r_11 u_11 t_11 H_11 L_11 ht_11 hvm_11 hw_11 hB_11 hz_11 hk_11 hS => ?_)
      rw [ht_11] at hB_11
      have hP : va_P (dC, dI) vwCl (modW b r1 r2 g (cd true true true)) H_11 := hB_11
      have hD : va_D A (modW b r1 r2 g (cd true true true)) := va_D_th hD
      obtain rfl : r_11 = 1 := hw_11.trans (by simp [b2i])
      refine lv_if_ne (tgt := 30) hx hb dX13_begin_25 (by decide) (fun c_12 => ?_) (fun c_12 => absurd c_12 (by decide))
      obtain ⟨hP, hD⟩ := mod_x b r1 r2 g (cd true true true) jx hjx hP hD
      have hP : va_P (dC, dI) vwCl [((b 0), .inr (15, [.int (cd true true true), .ref (b 1), .ref (b 2), .int 0, .ref (b 3), .ref (b 4), .ref (b 5), .null, .ref (b 6), .int 0, .int 0, .int 0, .int 0, .int 0])), ((b 3), .inl (g 4, 8, .inr (.inr (.inr (.inr (fun i => if i < 8 then some (r1 i) else none)))))), ((r1 jx), .inl (g 0, 0, .inl (fun _ => 0))), ((b 1), .inl (g 0, 200, .inl (fun _ => 0))), ((b 2), .inl (g 0, 200, .inl (fun _ => 0))), ((b 5), .inl (g 0, 5, .inl stf))] H_11 := hP
      have hD : va_D A [((b 0), .inr (15, [.int (cd true true true), .ref (b 1), .ref (b 2), .int 0, .ref (b 3), .ref (b 4), .ref (b 5), .null, .ref (b 6), .int 0, .int 0, .int 0, .int 0, .int 0])), ((b 3), .inl (g 4, 8, .inr (.inr (.inr (.inr (fun i => if i < 8 then some (r1 i) else none)))))), ((r1 jx), .inl (g 0, 0, .inl (fun _ => 0))), ((b 1), .inl (g 0, 200, .inl (fun _ => 0))), ((b 2), .inl (g 0, 200, .inl (fun _ => 0))), ((b 5), .inl (g 0, 5, .inl stf))] := hD
      refine lv_aload_n hx hb dX13_begin_30 rfl (lv_at hl 0 rfl) ?_
      refine lv_iload_n hx hb dX13_begin_31 rfl (lv_at hl 1 rfl) ?_
      have hPc := hP.sub (ws' := [((b 0), .inr (15, [.int (cd true true true), .ref (b 1), .ref (b 2), .int 0, .ref (b 3), .ref (b 4), .ref (b 5), .null, .ref (b 6), .int 0, .int 0, .int 0, .int 0, .int 0])), ((b 3), .inl (g 4, 8, .inr (.inr (.inr (.inr (fun i => if i < 8 then some (r1 i) else none)))))), ((r1 jx), .inl (g 0, 0, .inl (fun _ => 0))), ((b 1), .inl (g 0, 200, .inl (fun _ => 0))), ((b 2), .inl (g 0, 200, .inl (fun _ => 0))), ((b 5), .inl (g 0, 5, .inl stf))]) [0, 1, 2, 3, 4, 5] rfl
      have hDc := hD.sub (ws' := [((b 0), .inr (15, [.int (cd true true true), .ref (b 1), .ref (b 2), .int 0, .ref (b 3), .ref (b 4), .ref (b 5), .null, .ref (b 6), .int 0, .int 0, .int 0, .int 0, .int 0])), ((b 3), .inl (g 4, 8, .inr (.inr (.inr (.inr (fun i => if i < 8 then some (r1 i) else none)))))), ((r1 jx), .inl (g 0, 0, .inl (fun _ => 0))), ((b 1), .inl (g 0, 200, .inl (fun _ => 0))), ((b 2), .inl (g 0, 200, .inl (fun _ => 0))), ((b 5), .inl (g 0, 5, .inl stf))]) [0, 1, 2, 3, 4, 5] (by decide) rfl
      have hFc := va_free (wc := [((b 0), .inr (15, [.int (cd true true true), .ref (b 1), .ref (b 2), .int 0, .ref (b 3), .ref (b 4), .ref (b 5), .null, .ref (b 6), .int 0, .int 0, .int 0, .int 0, .int 0])), ((b 3), .inl (g 4, 8, .inr (.inr (.inr (.inr (fun i => if i < 8 then some (r1 i) else none)))))), ((r1 jx), .inl (g 0, 0, .inl (fun _ => 0))), ((b 1), .inl (g 0, 200, .inl (fun _ => 0))), ((b 2), .inl (g 0, 200, .inl (fun _ => 0))), ((b 5), .inl (g 0, 5, .inl stf))]) hD hS hA [0, 1, 2, 3, 4, 5] rfl
      refine va_callq (va_runV (As := [.int (nI jx)]) (rest := []) ⟨hx, hb, hml, hown, hts⟩ (c_X13_runsNow l dC dI g b r1 r2 jx (cd true true true) hjx H_11.size) (cwV 1 hts gX13_begin_X13_runsNow rfl rfl rfl (by decide +kernel) ⟨Nat.le_of_ble_eq_true rfl, Nat.le_of_ble_eq_true rfl⟩) ⟨PG_blind, va_recv hK hP (ci := 15) (q0 := 0) rfl rfl, PG_call hK hG hS hPc hDc hFc⟩ rfl rfl hl.1 rfl (lv_room (Nat.le_of_ble_eq_true rfl)) dX13_begin_32 ⟨Nat.le_of_ble_eq_true rfl, Nat.le_of_ble_eq_true rfl⟩) hS (fun q _ h => hFc q h) hFc (fun r_13 u_13 t_13 H_13 L_13 ht_13 hvm_13 hw_13 hB_13 hz_13 hk_13 hS => ?_)
      obtain ⟨hP1, hD1⟩ := hB_13
      rw [ht_13] at hP1
      obtain ⟨hP, hD⟩ := va_join (wr := []) (w1 := [((b 0), .inr (15, [.int (cd true true true), .ref (b 1), .ref (b 2), .int 0, .ref (b 3), .ref (b 4), .ref (b 5), .null, .ref (b 6), .int 0, .int 0, .int 0, .int 0, .int 0])), ((b 3), .inl (g 4, 8, .inr (.inr (.inr (.inr (fun i => if i < 8 then some (r1 i) else none)))))), ((r1 jx), .inl (g 0, 0, .inl (fun _ => 0))), ((b 1), .inl (g 0, 200, .inl (fun _ => 0))), ((b 2), .inl (g 0, 200, .inl (fun _ => 0))), ((b 5), .inl (g 0, 5, .inl stf)), ((u_13 0), .inr (1, [.int 0, .ref (g 10), .int 0]))]) hP hD [0, 1, 2, 3, 4, 5] [] rfl rfl (by decide) (by decide) hk_13 hFc hP1 hD1
      have hP : va_P (dC, dI) vwCl [((b 0), .inr (15, [.int (cd true true true), .ref (b 1), .ref (b 2), .int 0, .ref (b 3), .ref (b 4), .ref (b 5), .null, .ref (b 6), .int 0, .int 0, .int 0, .int 0, .int 0])), ((b 3), .inl (g 4, 8, .inr (.inr (.inr (.inr (fun i => if i < 8 then some (r1 i) else none)))))), ((r1 jx), .inl (g 0, 0, .inl (fun _ => 0))), ((b 1), .inl (g 0, 200, .inl (fun _ => 0))), ((b 2), .inl (g 0, 200, .inl (fun _ => 0))), ((b 5), .inl (g 0, 5, .inl stf)), ((u_13 0), .inr (1, [.int 0, .ref (g 10), .int 0]))] H_13 := hP
      have hD : va_D A [((b 0), .inr (15, [.int (cd true true true), .ref (b 1), .ref (b 2), .int 0, .ref (b 3), .ref (b 4), .ref (b 5), .null, .ref (b 6), .int 0, .int 0, .int 0, .int 0, .int 0])), ((b 3), .inl (g 4, 8, .inr (.inr (.inr (.inr (fun i => if i < 8 then some (r1 i) else none)))))), ((r1 jx), .inl (g 0, 0, .inl (fun _ => 0))), ((b 1), .inl (g 0, 200, .inl (fun _ => 0))), ((b 2), .inl (g 0, 200, .inl (fun _ => 0))), ((b 5), .inl (g 0, 5, .inl stf)), ((u_13 0), .inr (1, [.int 0, .ref (g 10), .int 0]))] := hD
      refine W.widen (k := 4) (n := 12) (by omega) (by omega) ?_
      obtain rfl : r_13 = some (u_13 0) := hw_13
      refine W.eq (g2 := F0 m 35 ls [.ref (u_13 0)]) rfl ?_
      refine va_callFi (va_runF (As := []) (rest := []) (hK.1 1 _ rfl).2 ⟨hx, hb, hml, hown, hts⟩ (c_Jx4a65c_size_8abf5 l dC dI g [((b 0), .inr (15, [.int (cd true true true), .ref (b 1), .ref (b 2), .int 0, .ref (b 3), .ref (b 4), .ref (b 5), .null, .ref (b 6), .int 0, .int 0, .int 0, .int 0, .int 0])), ((b 3), .inl (g 4, 8, .inr (.inr (.inr (.inr (fun i => if i < 8 then some (r1 i) else none)))))), ((r1 jx), .inl (g 0, 0, .inl (fun _ => 0))), ((b 1), .inl (g 0, 200, .inl (fun _ => 0))), ((b 2), .inl (g 0, 200, .inl (fun _ => 0))), ((b 5), .inl (g 0, 5, .inl stf)), ((u_13 0), .inr (1, [.int 0, .ref (g 10), .int 0]))] (u_13 0) 0 0 (some (g 10)) 6 rfl  H_13.size) (va_cwF 0 hts gX13_begin_Jx4a65c_size_8abf5_f79Jx4a65c rfl rfl rfl (fw_1 hG) (by decide +kernel) ⟨Nat.le_of_ble_eq_true rfl, Nat.le_of_ble_eq_true rfl⟩) ⟨PG_blind, va_recv hK hP (ci := 1) (q0 := 6) rfl rfl, PG_call hK hG hS hP hD (A_all hD hA hS.1)⟩ rfl rfl hl.1 rfl (lv_room (Nat.le_of_ble_eq_true rfl)) dX13_begin_35 ⟨Nat.le_of_ble_eq_true rfl, Nat.le_of_ble_eq_true rfl⟩) hS (fun q _ h => (A_all hD hA hS.1) q h) (A_all hD hA hS.1) (fun r_14 u_14 t_14 H_14 L_14 ht_14 hvm_14 hw_14 hB_14 hz_14 hk_14 hS => ?_)
      replace hB_14 := (show va_P (dC, dI) vwCl [((b 0), .inr (15, [.int (cd true true true), .ref (b 1), .ref (b 2), .int 0, .ref (b 3), .ref (b 4), .ref (b 5), .null, .ref (b 6), .int 0, .int 0, .int 0, .int 0, .int 0])), ((b 3), .inl (g 4, 8, .inr (.inr (.inr (.inr (fun i => if i < 8 then some (r1 i) else none)))))), ((r1 jx), .inl (g 0, 0, .inl (fun _ => 0))), ((b 1), .inl (g 0, 200, .inl (fun _ => 0))), ((b 2), .inl (g 0, 200, .inl (fun _ => 0))), ((b 5), .inl (g 0, 5, .inl stf)), ((u_13 0), .inr (1, [.int 0, .ref (g 10), .int 0]))] t_14.heap from hB_14)
      rw [ht_14] at hB_14
      have hP := hB_14
      obtain rfl : r_14 = 0 := hw_14
      refine lv_istore_n (lv' := [(3, .int 0), (0, .ref (b 0)), (1, .int (nI jx)), (2, .int (nI jy))]) hx hb dX13_begin_40 rfl hl (by decide) rfl (fun ls hl => ?_)
      refine lv_aload_n hx hb dX13_begin_41 rfl (lv_at hl 1 rfl) ?_
      refine va_new (ci := 14) (fs := [.null, .int 0, .int 0, .null, .null, .int 0, .int 0, .int 0, .int 0, .int 0, .int 0, .null]) (C := RX12) (T := TX12) (N := 12) hx hb hts hiX12 tyX12 tyX12_ok hown hcl147 hinX12 hiniX12 hK hP hD hS hA rfl (fun j hj => by rcases (show j = 0 ∨ j = 1 ∨ j = 2 ∨ j = 3 ∨ j = 4 ∨ j = 5 ∨ j = 6 ∨ j = 7 ∨ j = 8 ∨ j = 9 ∨ j = 10 ∨ j = 11 by omega) with rfl | rfl | rfl | rfl | rfl | rfl | rfl | rfl | rfl | rfl | rfl | rfl <;> rfl) (Nat.le_of_ble_eq_true rfl) (Nat.le_of_ble_eq_true rfl) dX13_begin_42 (fun q_15 H_16 hP hD hS => ?_)
      have hP : va_P (dC, dI) vwCl [((b 0), .inr (15, [.int (cd true true true), .ref (b 1), .ref (b 2), .int 0, .ref (b 3), .ref (b 4), .ref (b 5), .null, .ref (b 6), .int 0, .int 0, .int 0, .int 0, .int 0])), ((b 3), .inl (g 4, 8, .inr (.inr (.inr (.inr (fun i => if i < 8 then some (r1 i) else none)))))), ((r1 jx), .inl (g 0, 0, .inl (fun _ => 0))), ((b 1), .inl (g 0, 200, .inl (fun _ => 0))), ((b 2), .inl (g 0, 200, .inl (fun _ => 0))), ((b 5), .inl (g 0, 5, .inl stf)), ((u_13 0), .inr (1, [.int 0, .ref (g 10), .int 0])), (q_15, .inr (14, [.null, .int 0, .int 0, .null, .null, .int 0, .int 0, .int 0, .int 0, .int 0, .int 0, .null]))] H_16 := hP
      have hD : va_D A [((b 0), .inr (15, [.int (cd true true true), .ref (b 1), .ref (b 2), .int 0, .ref (b 3), .ref (b 4), .ref (b 5), .null, .ref (b 6), .int 0, .int 0, .int 0, .int 0, .int 0])), ((b 3), .inl (g 4, 8, .inr (.inr (.inr (.inr (fun i => if i < 8 then some (r1 i) else none)))))), ((r1 jx), .inl (g 0, 0, .inl (fun _ => 0))), ((b 1), .inl (g 0, 200, .inl (fun _ => 0))), ((b 2), .inl (g 0, 200, .inl (fun _ => 0))), ((b 5), .inl (g 0, 5, .inl stf)), ((u_13 0), .inr (1, [.int 0, .ref (g 10), .int 0])), (q_15, .inr (14, [.null, .int 0, .int 0, .null, .null, .int 0, .int 0, .int 0, .int 0, .int 0, .int 0, .null]))] := hD
      refine W.widen (k := 5) (n := 24) (by omega) (by omega) ?_
      refine lv_dup hx hb dX13_begin_45 rfl ?_
      refine lv_aload_n hx hb dX13_begin_46 rfl (lv_at hl 1 rfl) ?_
      refine lv_aload_n hx hb dX13_begin_47 rfl (lv_at hl 1 rfl) ?_
      refine va_get (D := (dC, dI)) (ci := 15) (v := .ref (b 3)) (C := RX13) (T := TX13) (N := 14) hx hb hts hiX13 hown hK hP 0 rfl rfl 4 (by decide) hf29 (fun _ h9 => h9) rfl dX13_begin_48 ?_
      refine lv_iload_n hx hb dX13_begin_51 rfl (lv_at hl 2 rfl) ?_
      refine va_aldA hx hb hK hP 1 rfl (vp_in_nI hjx (by decide)) dX13_begin_52 ?_
      refine W.eq (g2 := F0 m 53 ls [.ref (r1 jx), .ref (b 0), .ref q_15, .ref q_15, .ref (b 0)]) (by rw [nI_clamp (show jx < 2 ^ 31 by omega)]; simp only [if_pos hjx]; rfl) ?_
      refine lv_iload_n hx hb dX13_begin_53 rfl (lv_at hl 3 rfl) ?_
      refine lv_aload_n hx hb dX13_begin_54 rfl (lv_at hl 1 rfl) ?_
      refine va_get (D := (dC, dI)) (ci := 15) (v := .ref (b 5)) (C := RX13) (T := TX13) (N := 14) hx hb hts hiX13 hown hK hP 0 rfl rfl 6 (by decide) hf35 (fun _ h9 => h9) rfl dX13_begin_55 ?_
      have hPc := hP.sub (ws' := [(q_15, .inr (14, [.null, .int 0, .int 0, .null, .null, .int 0, .int 0, .int 0, .int 0, .int 0, .int 0, .null])), ((b 0), .inr (15, [.int (cd true true true), .ref (b 1), .ref (b 2), .int 0, .ref (b 3), .ref (b 4), .ref (b 5), .null, .ref (b 6), .int 0, .int 0, .int 0, .int 0, .int 0])), ((r1 jx), .inl (g 0, 0, .inl (fun _ => 0))), ((b 5), .inl (g 0, 5, .inl stf))]) [7, 0, 2, 5] rfl
      have hDc := hD.sub (ws' := [(q_15, .inr (14, [.null, .int 0, .int 0, .null, .null, .int 0, .int 0, .int 0, .int 0, .int 0, .int 0, .null])), ((b 0), .inr (15, [.int (cd true true true), .ref (b 1), .ref (b 2), .int 0, .ref (b 3), .ref (b 4), .ref (b 5), .null, .ref (b 6), .int 0, .int 0, .int 0, .int 0, .int 0])), ((r1 jx), .inl (g 0, 0, .inl (fun _ => 0))), ((b 5), .inl (g 0, 5, .inl stf))]) [7, 0, 2, 5] (by decide) rfl
      have hFc := va_free (wc := [(q_15, .inr (14, [.null, .int 0, .int 0, .null, .null, .int 0, .int 0, .int 0, .int 0, .int 0, .int 0, .null])), ((b 0), .inr (15, [.int (cd true true true), .ref (b 1), .ref (b 2), .int 0, .ref (b 3), .ref (b 4), .ref (b 5), .null, .ref (b 6), .int 0, .int 0, .int 0, .int 0, .int 0])), ((r1 jx), .inl (g 0, 0, .inl (fun _ => 0))), ((b 5), .inl (g 0, 5, .inl stf))]) hD hS hA [7, 0, 2, 5] rfl
      refine va_callv (va_runI (As := [.ref (b 0), .ref (r1 jx), .int (nI jy), .ref (b 5)]) (rest := [.ref q_15, .ref (b 0)]) ⟨hx, hb, hml, hown, hts⟩ (c_X12_init_10 l dC dI g q_15 (b 0) (r1 jx) (b 5) (nI jy) (fun _ => 0) stf (cd true true true) (b 1) (b 2) 0 (b 3) (b 4) (b 5) none (b 6) 0 0 0 0 0 (by decide) (by decide) (by decide) (by decide) (by decide) H_16.size) (cwI 4 hts gX13_begin_X12_init rfl rfl rfl hiniX12 hml149 himX12_init rfl (by decide +kernel) ⟨Nat.le_of_ble_eq_true rfl, Nat.le_of_ble_eq_true rfl⟩) ⟨PG_blind, PG_call hK hG hS hPc hDc hFc⟩ rfl rfl hl.1 rfl (lv_room (Nat.le_of_ble_eq_true rfl)) dX13_begin_58 ⟨Nat.le_of_ble_eq_true rfl, Nat.le_of_ble_eq_true rfl⟩) hS (fun q _ h => hFc q h) hFc (fun u_17 t_17 H_17 L_17 ht_17 hvm_17 hw_17 hB_17 hz_17 hk_17 hS => ?_)
      obtain ⟨hP1, hD1⟩ := hB_17
      rw [ht_17] at hP1
      obtain ⟨hP, hD⟩ := va_join (wr := [((b 3), .inl (g 4, 8, .inr (.inr (.inr (.inr (fun i => if i < 8 then some (r1 i) else none)))))), ((b 1), .inl (g 0, 200, .inl (fun _ => 0))), ((b 2), .inl (g 0, 200, .inl (fun _ => 0))), ((u_13 0), .inr (1, [.int 0, .ref (g 10), .int 0]))]) (w1 := [(q_15, .inr (14, [.ref (u_17 0), .int (nI jy), .int 0, .ref (u_17 1), .ref (u_17 2), .int 0, .int 0, .int 0, .int 0, .int 0, .int 0, .ref (b 0)])), ((u_17 0), .inl (g 0, 5, .inl (upd (upd (upd (upd (upd (fun _ => 0) (0 : Int32).toNatClampNeg 0) (1 : Int32).toNatClampNeg 1) (2 : Int32).toNatClampNeg 4) (3 : Int32).toNatClampNeg 0) (4 : Int32).toNatClampNeg 2))), ((u_17 2), .inr (1, [.int 0, .ref (g 10), .int 0])), ((u_17 1), .inr (1, [.int 1, .ref (u_17 3), .int 1])), ((u_17 3), .inl (g 5, 10, .inr (.inr (.inr (.inr (va_up (fun _ => none) 0 (some (u_17 4)))))))), ((u_17 4), .inr (1, [.int 0, .ref (g 10), .int 0])), ((b 0), .inr (15, [.int (cd true true true), .ref (b 1), .ref (b 2), .int 0, .ref (b 3), .ref (b 4), .ref (b 5), .null, .ref (b 6), .int 0, .int 0, .int 0, .int 0, .int 0])), ((r1 jx), .inl (g 0, 0, .inl (fun _ => 0))), ((b 5), .inl (g 0, 5, .inl stf))]) hP hD [7, 0, 2, 5] [1, 3, 4, 6] rfl rfl (by decide) (by decide) hk_17 hFc hP1 hD1
      have hP : va_P (dC, dI) vwCl [((b 3), .inl (g 4, 8, .inr (.inr (.inr (.inr (fun i => if i < 8 then some (r1 i) else none)))))), ((b 1), .inl (g 0, 200, .inl (fun _ => 0))), ((b 2), .inl (g 0, 200, .inl (fun _ => 0))), ((u_13 0), .inr (1, [.int 0, .ref (g 10), .int 0])), (q_15, .inr (14, [.ref (u_17 0), .int (nI jy), .int 0, .ref (u_17 1), .ref (u_17 2), .int 0, .int 0, .int 0, .int 0, .int 0, .int 0, .ref (b 0)])), ((u_17 0), .inl (g 0, 5, .inl (upd (upd (upd (upd (upd (fun _ => 0) (0 : Int32).toNatClampNeg 0) (1 : Int32).toNatClampNeg 1) (2 : Int32).toNatClampNeg 4) (3 : Int32).toNatClampNeg 0) (4 : Int32).toNatClampNeg 2))), ((u_17 2), .inr (1, [.int 0, .ref (g 10), .int 0])), ((u_17 1), .inr (1, [.int 1, .ref (u_17 3), .int 1])), ((u_17 3), .inl (g 5, 10, .inr (.inr (.inr (.inr (va_up (fun _ => none) 0 (some (u_17 4)))))))), ((u_17 4), .inr (1, [.int 0, .ref (g 10), .int 0])), ((b 0), .inr (15, [.int (cd true true true), .ref (b 1), .ref (b 2), .int 0, .ref (b 3), .ref (b 4), .ref (b 5), .null, .ref (b 6), .int 0, .int 0, .int 0, .int 0, .int 0])), ((r1 jx), .inl (g 0, 0, .inl (fun _ => 0))), ((b 5), .inl (g 0, 5, .inl stf))] H_17 := hP
      have hD : va_D A [((b 3), .inl (g 4, 8, .inr (.inr (.inr (.inr (fun i => if i < 8 then some (r1 i) else none)))))), ((b 1), .inl (g 0, 200, .inl (fun _ => 0))), ((b 2), .inl (g 0, 200, .inl (fun _ => 0))), ((u_13 0), .inr (1, [.int 0, .ref (g 10), .int 0])), (q_15, .inr (14, [.ref (u_17 0), .int (nI jy), .int 0, .ref (u_17 1), .ref (u_17 2), .int 0, .int 0, .int 0, .int 0, .int 0, .int 0, .ref (b 0)])), ((u_17 0), .inl (g 0, 5, .inl (upd (upd (upd (upd (upd (fun _ => 0) (0 : Int32).toNatClampNeg 0) (1 : Int32).toNatClampNeg 1) (2 : Int32).toNatClampNeg 4) (3 : Int32).toNatClampNeg 0) (4 : Int32).toNatClampNeg 2))), ((u_17 2), .inr (1, [.int 0, .ref (g 10), .int 0])), ((u_17 1), .inr (1, [.int 1, .ref (u_17 3), .int 1])), ((u_17 3), .inl (g 5, 10, .inr (.inr (.inr (.inr (va_up (fun _ => none) 0 (some (u_17 4)))))))), ((u_17 4), .inr (1, [.int 0, .ref (g 10), .int 0])), ((b 0), .inr (15, [.int (cd true true true), .ref (b 1), .ref (b 2), .int 0, .ref (b 3), .ref (b 4), .ref (b 5), .null, .ref (b 6), .int 0, .int 0, .int 0, .int 0, .int 0])), ((r1 jx), .inl (g 0, 0, .inl (fun _ => 0))), ((b 5), .inl (g 0, 5, .inl stf))] := hD
      refine W.widen (k := 13) (n := 57) (by omega) (by omega) ?_
      refine va_put (D := (dC, dI)) (ci := 15) (v := .ref q_15) (ty := .object "RunmergeOfficeModel$Job") (C := RX13) (T := TX13) (N := 14) hx hb hts hiX13 tyX13 tyX13_ok nmX13 hown hK hP hD hS 10 rfl rfl 7 (by decide) hf166 (fun _ h9 => h9) rfl (by decide +kernel) rfl rfl (Nat.le_of_ble_eq_true rfl) dX13_begin_61 (fun H_18 L_19 hP hD hS => ?_)
      have hP : va_P (dC, dI) vwCl [((b 3), .inl (g 4, 8, .inr (.inr (.inr (.inr (fun i => if i < 8 then some (r1 i) else none)))))), ((b 1), .inl (g 0, 200, .inl (fun _ => 0))), ((b 2), .inl (g 0, 200, .inl (fun _ => 0))), ((u_13 0), .inr (1, [.int 0, .ref (g 10), .int 0])), (q_15, .inr (14, [.ref (u_17 0), .int (nI jy), .int 0, .ref (u_17 1), .ref (u_17 2), .int 0, .int 0, .int 0, .int 0, .int 0, .int 0, .ref (b 0)])), ((u_17 0), .inl (g 0, 5, .inl (upd (upd (upd (upd (upd (fun _ => 0) (0 : Int32).toNatClampNeg 0) (1 : Int32).toNatClampNeg 1) (2 : Int32).toNatClampNeg 4) (3 : Int32).toNatClampNeg 0) (4 : Int32).toNatClampNeg 2))), ((u_17 2), .inr (1, [.int 0, .ref (g 10), .int 0])), ((u_17 1), .inr (1, [.int 1, .ref (u_17 3), .int 1])), ((u_17 3), .inl (g 5, 10, .inr (.inr (.inr (.inr (va_up (fun _ => none) 0 (some (u_17 4)))))))), ((u_17 4), .inr (1, [.int 0, .ref (g 10), .int 0])), ((b 0), .inr (15, [.int (cd true true true), .ref (b 1), .ref (b 2), .int 0, .ref (b 3), .ref (b 4), .ref (b 5), .ref q_15, .ref (b 6), .int 0, .int 0, .int 0, .int 0, .int 0])), ((r1 jx), .inl (g 0, 0, .inl (fun _ => 0))), ((b 5), .inl (g 0, 5, .inl stf))] H_18 := hP
      have hD : va_D A [((b 3), .inl (g 4, 8, .inr (.inr (.inr (.inr (fun i => if i < 8 then some (r1 i) else none)))))), ((b 1), .inl (g 0, 200, .inl (fun _ => 0))), ((b 2), .inl (g 0, 200, .inl (fun _ => 0))), ((u_13 0), .inr (1, [.int 0, .ref (g 10), .int 0])), (q_15, .inr (14, [.ref (u_17 0), .int (nI jy), .int 0, .ref (u_17 1), .ref (u_17 2), .int 0, .int 0, .int 0, .int 0, .int 0, .int 0, .ref (b 0)])), ((u_17 0), .inl (g 0, 5, .inl (upd (upd (upd (upd (upd (fun _ => 0) (0 : Int32).toNatClampNeg 0) (1 : Int32).toNatClampNeg 1) (2 : Int32).toNatClampNeg 4) (3 : Int32).toNatClampNeg 0) (4 : Int32).toNatClampNeg 2))), ((u_17 2), .inr (1, [.int 0, .ref (g 10), .int 0])), ((u_17 1), .inr (1, [.int 1, .ref (u_17 3), .int 1])), ((u_17 3), .inl (g 5, 10, .inr (.inr (.inr (.inr (va_up (fun _ => none) 0 (some (u_17 4)))))))), ((u_17 4), .inr (1, [.int 0, .ref (g 10), .int 0])), ((b 0), .inr (15, [.int (cd true true true), .ref (b 1), .ref (b 2), .int 0, .ref (b 3), .ref (b 4), .ref (b 5), .ref q_15, .ref (b 6), .int 0, .int 0, .int 0, .int 0, .int 0])), ((r1 jx), .inl (g 0, 0, .inl (fun _ => 0))), ((b 5), .inl (g 0, 5, .inl stf))] := hD
      refine lv_aload_n hx hb dX13_begin_64 rfl (lv_at hl 1 rfl) ?_
      have hPc := hP.sub (ws' := [((b 0), .inr (15, [.int (cd true true true), .ref (b 1), .ref (b 2), .int 0, .ref (b 3), .ref (b 4), .ref (b 5), .ref q_15, .ref (b 6), .int 0, .int 0, .int 0, .int 0, .int 0])), ((b 3), .inl (g 4, 8, .inr (.inr (.inr (.inr (fun i => if i < 8 then some (r1 i) else none)))))), (q_15, .inr (14, [.ref (u_17 0), .int (nI jy), .int 0, .ref (u_17 1), .ref (u_17 2), .int 0, .int 0, .int 0, .int 0, .int 0, .int 0, .ref (b 0)])), ((u_17 1), .inr (1, [.int 1, .ref (u_17 3), .int 1])), ((u_17 3), .inl (g 5, 10, .inr (.inr (.inr (.inr (va_up (fun _ => none) 0 (some (u_17 4)))))))), ((u_17 4), .inr (1, [.int 0, .ref (g 10), .int 0]))]) [10, 0, 4, 7, 8, 9] rfl
      have hDc := hD.sub (ws' := [((b 0), .inr (15, [.int (cd true true true), .ref (b 1), .ref (b 2), .int 0, .ref (b 3), .ref (b 4), .ref (b 5), .ref q_15, .ref (b 6), .int 0, .int 0, .int 0, .int 0, .int 0])), ((b 3), .inl (g 4, 8, .inr (.inr (.inr (.inr (fun i => if i < 8 then some (r1 i) else none)))))), (q_15, .inr (14, [.ref (u_17 0), .int (nI jy), .int 0, .ref (u_17 1), .ref (u_17 2), .int 0, .int 0, .int 0, .int 0, .int 0, .int 0, .ref (b 0)])), ((u_17 1), .inr (1, [.int 1, .ref (u_17 3), .int 1])), ((u_17 3), .inl (g 5, 10, .inr (.inr (.inr (.inr (va_up (fun _ => none) 0 (some (u_17 4)))))))), ((u_17 4), .inr (1, [.int 0, .ref (g 10), .int 0]))]) [10, 0, 4, 7, 8, 9] (by decide) rfl
      have hFc := va_free (wc := [((b 0), .inr (15, [.int (cd true true true), .ref (b 1), .ref (b 2), .int 0, .ref (b 3), .ref (b 4), .ref (b 5), .ref q_15, .ref (b 6), .int 0, .int 0, .int 0, .int 0, .int 0])), ((b 3), .inl (g 4, 8, .inr (.inr (.inr (.inr (fun i => if i < 8 then some (r1 i) else none)))))), (q_15, .inr (14, [.ref (u_17 0), .int (nI jy), .int 0, .ref (u_17 1), .ref (u_17 2), .int 0, .int 0, .int 0, .int 0, .int 0, .int 0, .ref (b 0)])), ((u_17 1), .inr (1, [.int 1, .ref (u_17 3), .int 1])), ((u_17 3), .inl (g 5, 10, .inr (.inr (.inr (.inr (va_up (fun _ => none) 0 (some (u_17 4)))))))), ((u_17 4), .inr (1, [.int 0, .ref (g 10), .int 0]))]) hD hS hA [10, 0, 4, 7, 8, 9] rfl
      refine va_callv (va_runV (As := []) (rest := []) ⟨hx, hb, hml, hown, hts⟩ (c_X13_ends l dC dI g b r1 r2 q_15 (u_17 0) (u_17 1) (u_17 2) (u_17 3) (u_17 4) jy (cd true true true) hjy H_18.size) (cwV 0 hts gX13_begin_X13_ends rfl rfl rfl (by decide +kernel) ⟨Nat.le_of_ble_eq_true rfl, Nat.le_of_ble_eq_true rfl⟩) ⟨PG_blind, va_recv hK hP (ci := 15) (q0 := 10) rfl rfl, PG_call hK hG hS hPc hDc hFc⟩ rfl rfl hl.1 rfl (lv_room (Nat.le_of_ble_eq_true rfl)) dX13_begin_65 ⟨Nat.le_of_ble_eq_true rfl, Nat.le_of_ble_eq_true rfl⟩) hS (fun q _ h => hFc q h) hFc (fun u_20 t_20 H_20 L_20 ht_20 hvm_20 hw_20 hB_20 hz_20 hk_20 hS => ?_)
      obtain ⟨hP1, hD1⟩ := hB_20
      rw [ht_20] at hP1
      obtain ⟨hP, hD⟩ := va_join (wr := [((b 1), .inl (g 0, 200, .inl (fun _ => 0))), ((b 2), .inl (g 0, 200, .inl (fun _ => 0))), ((u_13 0), .inr (1, [.int 0, .ref (g 10), .int 0])), ((u_17 0), .inl (g 0, 5, .inl (upd (upd (upd (upd (upd (fun _ => 0) (0 : Int32).toNatClampNeg 0) (1 : Int32).toNatClampNeg 1) (2 : Int32).toNatClampNeg 4) (3 : Int32).toNatClampNeg 0) (4 : Int32).toNatClampNeg 2))), ((u_17 2), .inr (1, [.int 0, .ref (g 10), .int 0])), ((r1 jx), .inl (g 0, 0, .inl (fun _ => 0))), ((b 5), .inl (g 0, 5, .inl stf))]) (w1 := [((b 0), .inr (15, [.int (cd true true true), .ref (b 1), .ref (b 2), .int 0, .ref (b 3), .ref (b 4), .ref (b 5), .ref q_15, .ref (b 6), .int 0, .int 0, .int 0, .int 0, .int 0]))]) hP hD [10, 0, 4, 7, 8, 9] [1, 2, 3, 5, 6, 11, 12] rfl rfl (by decide) (by decide) hk_20 hFc hP1 hD1
      have hP : va_P (dC, dI) vwCl [((b 1), .inl (g 0, 200, .inl (fun _ => 0))), ((b 2), .inl (g 0, 200, .inl (fun _ => 0))), ((u_13 0), .inr (1, [.int 0, .ref (g 10), .int 0])), ((u_17 0), .inl (g 0, 5, .inl (upd (upd (upd (upd (upd (fun _ => 0) (0 : Int32).toNatClampNeg 0) (1 : Int32).toNatClampNeg 1) (2 : Int32).toNatClampNeg 4) (3 : Int32).toNatClampNeg 0) (4 : Int32).toNatClampNeg 2))), ((u_17 2), .inr (1, [.int 0, .ref (g 10), .int 0])), ((r1 jx), .inl (g 0, 0, .inl (fun _ => 0))), ((b 5), .inl (g 0, 5, .inl stf)), ((b 0), .inr (15, [.int (cd true true true), .ref (b 1), .ref (b 2), .int 0, .ref (b 3), .ref (b 4), .ref (b 5), .ref q_15, .ref (b 6), .int 0, .int 0, .int 0, .int 0, .int 0]))] H_20 := hP
      have hD : va_D A [((b 1), .inl (g 0, 200, .inl (fun _ => 0))), ((b 2), .inl (g 0, 200, .inl (fun _ => 0))), ((u_13 0), .inr (1, [.int 0, .ref (g 10), .int 0])), ((u_17 0), .inl (g 0, 5, .inl (upd (upd (upd (upd (upd (fun _ => 0) (0 : Int32).toNatClampNeg 0) (1 : Int32).toNatClampNeg 1) (2 : Int32).toNatClampNeg 4) (3 : Int32).toNatClampNeg 0) (4 : Int32).toNatClampNeg 2))), ((u_17 2), .inr (1, [.int 0, .ref (g 10), .int 0])), ((r1 jx), .inl (g 0, 0, .inl (fun _ => 0))), ((b 5), .inl (g 0, 5, .inl stf)), ((b 0), .inr (15, [.int (cd true true true), .ref (b 1), .ref (b 2), .int 0, .ref (b 3), .ref (b 4), .ref (b 5), .ref q_15, .ref (b 6), .int 0, .int 0, .int 0, .int 0, .int 0]))] := hD
      refine W.widen (k := 14) (n := 57) (by omega) (by omega) ?_
      refine lv_iload_n hx hb dX13_begin_68 rfl (lv_at hl 0 rfl) ?_
      refine W.widen (k := 60) (n := 300) (by omega) (by omega) ?_
      have hcd : (cd true true true) = (cd (TOKb (nI jx) && TOKb (nI jy)) true true) := by simp [cd, (TOK_j hjx rfl), (TOK_j hjy rfl)]
      have hP8 := hP.sub (ws' := [((b 0), .inr (15, [.int (cd true true true), .ref (b 1), .ref (b 2), .int 0, .ref (b 3), .ref (b 4), .ref (b 5), .ref q_15, .ref (b 6), .int 0, .int 0, .int 0, .int 0, .int 0]))]) [7] rfl
      rw [hcd] at hP8
      exact W.iret (v := 0) hx hb hr (fun t ht hW => ⟨⟨0, (), rfl, (fun h => by first | rfl | (exact absurd (cd_0.mp h) (by simp [(TOK_j hjx rfl), (TOK_j hjy rfl)]))), ⟨[.ref (b 1), .ref (b 2), .int 0, .ref (b 3), .ref (b 4), .ref (b 5), .ref q_15, .ref (b 6), .int 0, .int 0, .int 0, .int 0, .int 0], P_at ht hP8⟩⟩, hS.F ht⟩) hS.2.2 dX13_begin_69
