theorem dX0_init_0 : decode cX0_init 0 = .ok (.aload_n 0, 1) := by decide +kernel
theorem dX0_init_1 : decode cX0_init 1 = .ok (.invokespecial 3, 3) := by decide +kernel
theorem dX0_init_4 : decode cX0_init 4 = .ok (.aload_n 0, 1) := by decide +kernel
theorem dX0_init_5 : decode cX0_init 5 = .ok (.sipush 200, 3) := by decide +kernel
theorem dX0_init_8 : decode cX0_init 8 = .ok (.newarray .int, 2) := by decide +kernel
theorem dX0_init_10 : decode cX0_init 10 = .ok (.putfield 9, 3) := by decide +kernel
theorem dX0_init_13 : decode cX0_init 13 = .ok (.aload_n 0, 1) := by decide +kernel
theorem dX0_init_14 : decode cX0_init 14 = .ok (.sipush 200, 3) := by decide +kernel
theorem dX0_init_17 : decode cX0_init 17 = .ok (.newarray .int, 2) := by decide +kernel
theorem dX0_init_19 : decode cX0_init 19 = .ok (.putfield 15, 3) := by decide +kernel
theorem dX0_init_22 : decode cX0_init 22 = .ok (.aload_n 0, 1) := by decide +kernel
theorem dX0_init_23 : decode cX0_init 23 = .ok (.iconst 0, 1) := by decide +kernel
theorem dX0_init_24 : decode cX0_init 24 = .ok (.putfield 18, 3) := by decide +kernel
theorem dX0_init_27 : decode cX0_init 27 = .ok (.return_, 1) := by decide +kernel
theorem dX0_has_0 : decode cX0_has 0 = .ok (.iload_n 1, 1) := by decide +kernel
theorem dX0_has_1 : decode cX0_has 1 = .ok (.ifCond .lt 15, 3) := by decide +kernel
theorem dX0_has_4 : decode cX0_has 4 = .ok (.iload_n 1, 1) := by decide +kernel
theorem dX0_has_5 : decode cX0_has 5 = .ok (.aload_n 0, 1) := by decide +kernel
theorem dX0_has_6 : decode cX0_has 6 = .ok (.getfield 18, 3) := by decide +kernel
theorem dX0_has_9 : decode cX0_has 9 = .ok (.if_icmp .ge 7, 3) := by decide +kernel
theorem dX0_has_12 : decode cX0_has 12 = .ok (.iconst 1, 1) := by decide +kernel
theorem dX0_has_13 : decode cX0_has 13 = .ok (.goto 4, 3) := by decide +kernel
theorem dX0_has_16 : decode cX0_has 16 = .ok (.iconst 0, 1) := by decide +kernel
theorem dX0_has_17 : decode cX0_has 17 = .ok (.ireturn, 1) := by decide +kernel
theorem dX0_add_0 : decode cX0_add 0 = .ok (.aload_n 0, 1) := by decide +kernel
theorem dX0_add_1 : decode cX0_add 1 = .ok (.getfield 18, 3) := by decide +kernel
theorem dX0_add_4 : decode cX0_add 4 = .ok (.istore_n 3, 1) := by decide +kernel
theorem dX0_add_5 : decode cX0_add 5 = .ok (.iload_n 3, 1) := by decide +kernel
theorem dX0_add_6 : decode cX0_add 6 = .ok (.ifCond .lt 10, 3) := by decide +kernel
theorem dX0_add_9 : decode cX0_add 9 = .ok (.iload_n 3, 1) := by decide +kernel
theorem dX0_add_10 : decode cX0_add 10 = .ok (.sipush 200, 3) := by decide +kernel
theorem dX0_add_13 : decode cX0_add 13 = .ok (.if_icmp .lt 5, 3) := by decide +kernel
theorem dX0_add_16 : decode cX0_add 16 = .ok (.iconst (-1), 1) := by decide +kernel
theorem dX0_add_17 : decode cX0_add 17 = .ok (.ireturn, 1) := by decide +kernel
theorem dX0_add_18 : decode cX0_add 18 = .ok (.aload_n 0, 1) := by decide +kernel
theorem dX0_add_19 : decode cX0_add 19 = .ok (.getfield 9, 3) := by decide +kernel
theorem dX0_add_22 : decode cX0_add 22 = .ok (.iload_n 3, 1) := by decide +kernel
theorem dX0_add_23 : decode cX0_add 23 = .ok (.iload_n 1, 1) := by decide +kernel
theorem dX0_add_24 : decode cX0_add 24 = .ok (.iastore, 1) := by decide +kernel
theorem dX0_add_25 : decode cX0_add 25 = .ok (.aload_n 0, 1) := by decide +kernel
theorem dX0_add_26 : decode cX0_add 26 = .ok (.getfield 15, 3) := by decide +kernel
theorem dX0_add_29 : decode cX0_add 29 = .ok (.iload_n 3, 1) := by decide +kernel
theorem dX0_add_30 : decode cX0_add 30 = .ok (.iload_n 2, 1) := by decide +kernel
theorem dX0_add_31 : decode cX0_add 31 = .ok (.iastore, 1) := by decide +kernel
theorem dX0_add_32 : decode cX0_add 32 = .ok (.aload_n 0, 1) := by decide +kernel
theorem dX0_add_33 : decode cX0_add 33 = .ok (.iload_n 3, 1) := by decide +kernel
theorem dX0_add_34 : decode cX0_add 34 = .ok (.iconst 1, 1) := by decide +kernel
theorem dX0_add_35 : decode cX0_add 35 = .ok (.iadd, 1) := by decide +kernel
theorem dX0_add_36 : decode cX0_add 36 = .ok (.putfield 18, 3) := by decide +kernel
theorem dX0_add_39 : decode cX0_add 39 = .ok (.iload_n 3, 1) := by decide +kernel
theorem dX0_add_40 : decode cX0_add 40 = .ok (.ireturn, 1) := by decide +kernel
theorem dX0_keyOf_0 : decode cX0_keyOf 0 = .ok (.iload_n 1, 1) := by decide +kernel
theorem dX0_keyOf_1 : decode cX0_keyOf 1 = .ok (.ifCond .lt 19, 3) := by decide +kernel
theorem dX0_keyOf_4 : decode cX0_keyOf 4 = .ok (.iload_n 1, 1) := by decide +kernel
theorem dX0_keyOf_5 : decode cX0_keyOf 5 = .ok (.sipush 200, 3) := by decide +kernel
theorem dX0_keyOf_8 : decode cX0_keyOf 8 = .ok (.if_icmp .ge 12, 3) := by decide +kernel
theorem dX0_keyOf_11 : decode cX0_keyOf 11 = .ok (.aload_n 0, 1) := by decide +kernel
theorem dX0_keyOf_12 : decode cX0_keyOf 12 = .ok (.getfield 9, 3) := by decide +kernel
theorem dX0_keyOf_15 : decode cX0_keyOf 15 = .ok (.iload_n 1, 1) := by decide +kernel
theorem dX0_keyOf_16 : decode cX0_keyOf 16 = .ok (.iaload, 1) := by decide +kernel
theorem dX0_keyOf_17 : decode cX0_keyOf 17 = .ok (.goto 4, 3) := by decide +kernel
theorem dX0_keyOf_20 : decode cX0_keyOf 20 = .ok (.iconst 0, 1) := by decide +kernel
theorem dX0_keyOf_21 : decode cX0_keyOf 21 = .ok (.ireturn, 1) := by decide +kernel
theorem dX0_markOf_0 : decode cX0_markOf 0 = .ok (.iload_n 1, 1) := by decide +kernel
theorem dX0_markOf_1 : decode cX0_markOf 1 = .ok (.ifCond .lt 19, 3) := by decide +kernel
theorem dX0_markOf_4 : decode cX0_markOf 4 = .ok (.iload_n 1, 1) := by decide +kernel
theorem dX0_markOf_5 : decode cX0_markOf 5 = .ok (.sipush 200, 3) := by decide +kernel
theorem dX0_markOf_8 : decode cX0_markOf 8 = .ok (.if_icmp .ge 12, 3) := by decide +kernel
theorem dX0_markOf_11 : decode cX0_markOf 11 = .ok (.aload_n 0, 1) := by decide +kernel
theorem dX0_markOf_12 : decode cX0_markOf 12 = .ok (.getfield 15, 3) := by decide +kernel
theorem dX0_markOf_15 : decode cX0_markOf 15 = .ok (.iload_n 1, 1) := by decide +kernel
theorem dX0_markOf_16 : decode cX0_markOf 16 = .ok (.iaload, 1) := by decide +kernel
theorem dX0_markOf_17 : decode cX0_markOf 17 = .ok (.goto 4, 3) := by decide +kernel
theorem dX0_markOf_20 : decode cX0_markOf 20 = .ok (.iconst 0, 1) := by decide +kernel
theorem dX0_markOf_21 : decode cX0_markOf 21 = .ok (.ireturn, 1) := by decide +kernel
theorem dX0_rankOf_0 : decode cX0_rankOf 0 = .ok (.iload_n 1, 1) := by decide +kernel
theorem dX0_rankOf_1 : decode cX0_rankOf 1 = .ok (.ifCond .lt 10, 3) := by decide +kernel
theorem dX0_rankOf_4 : decode cX0_rankOf 4 = .ok (.iload_n 1, 1) := by decide +kernel
theorem dX0_rankOf_5 : decode cX0_rankOf 5 = .ok (.sipush 200, 3) := by decide +kernel
theorem dX0_rankOf_8 : decode cX0_rankOf 8 = .ok (.if_icmp .lt 5, 3) := by decide +kernel
theorem dX0_rankOf_11 : decode cX0_rankOf 11 = .ok (.iconst 0, 1) := by decide +kernel
theorem dX0_rankOf_12 : decode cX0_rankOf 12 = .ok (.ireturn, 1) := by decide +kernel
theorem dX0_rankOf_13 : decode cX0_rankOf 13 = .ok (.iload_n 2, 1) := by decide +kernel
theorem dX0_rankOf_14 : decode cX0_rankOf 14 = .ok (.ifCond .ne 16, 3) := by decide +kernel
theorem dX0_rankOf_17 : decode cX0_rankOf 17 = .ok (.aload_n 0, 1) := by decide +kernel
theorem dX0_rankOf_18 : decode cX0_rankOf 18 = .ok (.getfield 9, 3) := by decide +kernel
theorem dX0_rankOf_21 : decode cX0_rankOf 21 = .ok (.iload_n 1, 1) := by decide +kernel
theorem dX0_rankOf_22 : decode cX0_rankOf 22 = .ok (.iaload, 1) := by decide +kernel
theorem dX0_rankOf_23 : decode cX0_rankOf 23 = .ok (.sipush 999, 3) := by decide +kernel
theorem dX0_rankOf_26 : decode cX0_rankOf 26 = .ok (.iadd, 1) := by decide +kernel
theorem dX0_rankOf_27 : decode cX0_rankOf 27 = .ok (.goto 13, 3) := by decide +kernel
theorem dX0_rankOf_30 : decode cX0_rankOf 30 = .ok (.sipush 999, 3) := by decide +kernel
theorem dX0_rankOf_33 : decode cX0_rankOf 33 = .ok (.aload_n 0, 1) := by decide +kernel
theorem dX0_rankOf_34 : decode cX0_rankOf 34 = .ok (.getfield 9, 3) := by decide +kernel
theorem dX0_rankOf_37 : decode cX0_rankOf 37 = .ok (.iload_n 1, 1) := by decide +kernel
theorem dX0_rankOf_38 : decode cX0_rankOf 38 = .ok (.iaload, 1) := by decide +kernel
theorem dX0_rankOf_39 : decode cX0_rankOf 39 = .ok (.isub, 1) := by decide +kernel
theorem dX0_rankOf_40 : decode cX0_rankOf 40 = .ok (.istore_n 3, 1) := by decide +kernel
theorem dX0_rankOf_41 : decode cX0_rankOf 41 = .ok (.iload_n 3, 1) := by decide +kernel
theorem dX0_rankOf_42 : decode cX0_rankOf 42 = .ok (.sipush 256, 3) := by decide +kernel
theorem dX0_rankOf_45 : decode cX0_rankOf 45 = .ok (.imul, 1) := by decide +kernel
theorem dX0_rankOf_46 : decode cX0_rankOf 46 = .ok (.iload_n 1, 1) := by decide +kernel
theorem dX0_rankOf_47 : decode cX0_rankOf 47 = .ok (.iadd, 1) := by decide +kernel
theorem dX0_rankOf_48 : decode cX0_rankOf 48 = .ok (.ireturn, 1) := by decide +kernel
theorem dX0_recordOf_0 : decode cX0_recordOf 0 = .ok (.iload_n 0, 1) := by decide +kernel
theorem dX0_recordOf_1 : decode cX0_recordOf 1 = .ok (.sipush 255, 3) := by decide +kernel
theorem dX0_recordOf_4 : decode cX0_recordOf 4 = .ok (.iand, 1) := by decide +kernel
theorem dX0_recordOf_5 : decode cX0_recordOf 5 = .ok (.ireturn, 1) := by decide +kernel
set_option maxRecDepth 20000 in
theorem ggX1_init_X6_init : GoodIn wsX1_init wsX6_init := goodIn_r _ [32, 33, 2, 3, 28, 34, 35, 36, 102, 103, 104] (by decide +kernel) (by decide +kernel)
set_option maxRecDepth 20000 in
theorem gX1_init_X6_init_n11 : GoodIn wsX1_init (wsX6_init) := ggX1_init_X6_init
set_option maxRecDepth 20000 in
theorem ggX1_init_X2_init : GoodIn wsX1_init wsX2_init := goodIn_r _ [38, 39, 2, 3, 40, 5, 6, 41, 42, 43, 44, 45, 28, 46, 47, 48, 49, 21, 22, 50, 51, 52, 53, 54, 55, 56, 57, 58, 59, 31, 32, 33, 34, 35, 36, 60, 61, 62, 63, 64, 65, 66, 67, 68, 69, 70, 71, 72, 73, 74, 75, 76, 102, 103, 104, 113, 114, 115, 116, 117, 118, 119, 120, 121, 122, 123, 124, 125, 126, 127, 148, 149, 150, 151, 152, 153, 141, 142, 143, 144, 145] (by decide +kernel) (by decide +kernel)
set_option maxRecDepth 20000 in
theorem gX1_init_X2_init_n20 : GoodIn wsX1_init (wsX2_init) := ggX1_init_X2_init
set_option maxRecDepth 20000 in
theorem ggX1_init_X4_init : GoodIn wsX1_init wsX4_init := goodIn_r _ [78, 79, 2, 3, 80, 43, 44, 81, 28, 82, 83, 84, 85, 86, 87, 88, 60, 61, 62, 63, 64, 65, 66, 67, 68, 148, 149, 150, 151, 152, 153, 128, 129, 130, 131, 132, 133, 134, 135] (by decide +kernel) (by decide +kernel)
set_option maxRecDepth 20000 in
theorem gX1_init_X4_init_n27 : GoodIn wsX1_init (wsX4_init) := ggX1_init_X4_init
set_option maxRecDepth 20000 in
theorem ggX1_init_X8_init : GoodIn wsX1_init wsX8_init := goodIn_r _ [90, 91, 2, 3, 92, 93, 94, 95, 96, 136, 137, 138, 139, 140] (by decide +kernel) (by decide +kernel)
set_option maxRecDepth 20000 in
theorem gX1_init_X8_init_n34 : GoodIn wsX1_init (wsX8_init) := ggX1_init_X8_init
set_option maxRecDepth 20000 in
theorem ggX1_init_X7_init : GoodIn wsX1_init wsX7_init := goodIn_r _ [70, 71, 2, 3, 28, 72, 73, 74, 75, 76, 141, 142, 143, 144, 145] (by decide +kernel) (by decide +kernel)
set_option maxRecDepth 20000 in
theorem gX1_init_X7_init_n41 : GoodIn wsX1_init (wsX7_init) := ggX1_init_X7_init
set_option maxRecDepth 20000 in
theorem ggX1_init_X9_init : GoodIn wsX1_init wsX9_init := goodIn_r _ [98, 99, 2, 3, 28, 100, 101, 146, 147] (by decide +kernel) (by decide +kernel)
set_option maxRecDepth 20000 in
theorem gX1_init_X9_init_n48 : GoodIn wsX1_init (wsX9_init) := ggX1_init_X9_init
theorem dX1_init_0 : decode cX1_init 0 = .ok (.aload_n 0, 1) := by decide +kernel
theorem dX1_init_1 : decode cX1_init 1 = .ok (.invokespecial 3, 3) := by decide +kernel
theorem dX1_init_4 : decode cX1_init 4 = .ok (.aload_n 0, 1) := by decide +kernel
theorem dX1_init_5 : decode cX1_init 5 = .ok (.new 9, 3) := by decide +kernel
theorem dX1_init_8 : decode cX1_init 8 = .ok (.dup, 1) := by decide +kernel
theorem dX1_init_9 : decode cX1_init 9 = .ok (.invokespecial 11, 3) := by decide +kernel
theorem dX1_init_12 : decode cX1_init 12 = .ok (.putfield 12, 3) := by decide +kernel
theorem dX1_init_15 : decode cX1_init 15 = .ok (.aload_n 0, 1) := by decide +kernel
theorem dX1_init_16 : decode cX1_init 16 = .ok (.new 18, 3) := by decide +kernel
theorem dX1_init_19 : decode cX1_init 19 = .ok (.dup, 1) := by decide +kernel
theorem dX1_init_20 : decode cX1_init 20 = .ok (.invokespecial 20, 3) := by decide +kernel
theorem dX1_init_23 : decode cX1_init 23 = .ok (.putfield 21, 3) := by decide +kernel
theorem dX1_init_26 : decode cX1_init 26 = .ok (.aload_n 0, 1) := by decide +kernel
theorem dX1_init_27 : decode cX1_init 27 = .ok (.new 25, 3) := by decide +kernel
theorem dX1_init_30 : decode cX1_init 30 = .ok (.dup, 1) := by decide +kernel
theorem dX1_init_31 : decode cX1_init 31 = .ok (.invokespecial 27, 3) := by decide +kernel
theorem dX1_init_34 : decode cX1_init 34 = .ok (.putfield 28, 3) := by decide +kernel
theorem dX1_init_37 : decode cX1_init 37 = .ok (.aload_n 0, 1) := by decide +kernel
theorem dX1_init_38 : decode cX1_init 38 = .ok (.new 32, 3) := by decide +kernel
theorem dX1_init_41 : decode cX1_init 41 = .ok (.dup, 1) := by decide +kernel
theorem dX1_init_42 : decode cX1_init 42 = .ok (.invokespecial 34, 3) := by decide +kernel
theorem dX1_init_45 : decode cX1_init 45 = .ok (.putfield 35, 3) := by decide +kernel
theorem dX1_init_48 : decode cX1_init 48 = .ok (.aload_n 0, 1) := by decide +kernel
theorem dX1_init_49 : decode cX1_init 49 = .ok (.new 39, 3) := by decide +kernel
theorem dX1_init_52 : decode cX1_init 52 = .ok (.dup, 1) := by decide +kernel
theorem dX1_init_53 : decode cX1_init 53 = .ok (.invokespecial 41, 3) := by decide +kernel
theorem dX1_init_56 : decode cX1_init 56 = .ok (.putfield 42, 3) := by decide +kernel
theorem dX1_init_59 : decode cX1_init 59 = .ok (.aload_n 0, 1) := by decide +kernel
theorem dX1_init_60 : decode cX1_init 60 = .ok (.new 46, 3) := by decide +kernel
theorem dX1_init_63 : decode cX1_init 63 = .ok (.dup, 1) := by decide +kernel
theorem dX1_init_64 : decode cX1_init 64 = .ok (.invokespecial 48, 3) := by decide +kernel
theorem dX1_init_67 : decode cX1_init 67 = .ok (.putfield 49, 3) := by decide +kernel
theorem dX1_init_70 : decode cX1_init 70 = .ok (.aload_n 0, 1) := by decide +kernel
theorem dX1_init_71 : decode cX1_init 71 = .ok (.sipush 200, 3) := by decide +kernel
theorem dX1_init_74 : decode cX1_init 74 = .ok (.newarray .int, 2) := by decide +kernel
theorem dX1_init_76 : decode cX1_init 76 = .ok (.putfield 53, 3) := by decide +kernel
theorem dX1_init_79 : decode cX1_init 79 = .ok (.aload_n 0, 1) := by decide +kernel
theorem dX1_init_80 : decode cX1_init 80 = .ok (.iconst 0, 1) := by decide +kernel
theorem dX1_init_81 : decode cX1_init 81 = .ok (.putfield 57, 3) := by decide +kernel
theorem dX1_init_84 : decode cX1_init 84 = .ok (.return_, 1) := by decide +kernel
set_option maxRecDepth 20000 in
theorem ggX1_countFailures_X8_takeOver : GoodIn wsX1_countFailures wsX8_takeOver := goodIn_r _ [9, 10, 11, 12, 13, 14, 310, 311, 312, 313, 314] (by decide +kernel) (by decide +kernel)
set_option maxRecDepth 20000 in
theorem gX1_countFailures_X8_takeOver : GoodIn wsX1_countFailures (wsV RX1 61 RX8 yX8_takeOver wsX8_takeOver) := goodIn_app (goodIn_of _ (by decide +kernel)) ggX1_countFailures_X8_takeOver
set_option maxRecDepth 20000 in
theorem ggX1_countFailures_X6_makeRuns : GoodIn wsX1_countFailures wsX6_makeRuns := goodIn_r _ [19, 20, 21, 22, 23, 24, 25, 26, 27, 28, 29, 30, 31, 32, 33, 34, 35, 36, 18, 37, 38, 39, 40, 41, 42, 43, 44, 45, 46, 47, 48, 49, 50, 51, 52, 53, 54, 55, 56, 57, 58, 59, 60, 61, 62, 63, 64, 65, 66, 67, 68, 69, 70, 71, 72, 73, 74, 75, 76, 77, 78, 79, 80, 81, 82, 83, 84, 85, 86, 87, 88, 310, 311, 312, 313, 314, 315, 316, 317, 318, 319, 320, 321, 322, 323, 324, 325, 326, 327] (by decide +kernel) (by decide +kernel)
set_option maxRecDepth 20000 in
theorem gX1_countFailures_X6_makeRuns : GoodIn wsX1_countFailures (wsV RX1 68 RX6 yX6_makeRuns wsX6_makeRuns) := goodIn_app (goodIn_of _ (by decide +kernel)) ggX1_countFailures_X6_makeRuns
set_option maxRecDepth 20000 in
theorem ggX1_countFailures_X1_checkReplacement : GoodIn wsX1_countFailures wsX1_checkReplacement := goodIn_r _ [93, 4, 2, 94, 95, 96, 30, 97, 32, 62, 98, 99, 100, 92, 101, 1, 102, 103, 104, 43, 105, 45, 106, 41, 42, 44, 46, 107, 48, 49, 50, 51, 52, 302, 303, 304, 305, 306, 307, 308, 309, 315, 316, 317, 318, 319, 310, 311, 312, 313, 314, 323, 324, 325, 326, 327] (by decide +kernel) (by decide +kernel)
set_option maxRecDepth 20000 in
theorem gX1_countFailures_X1_checkReplacement : GoodIn wsX1_countFailures (wsV RX1 72 RX1 yX1_checkReplacement wsX1_checkReplacement) := goodIn_app (goodIn_of _ (by decide +kernel)) ggX1_countFailures_X1_checkReplacement
set_option maxRecDepth 20000 in
theorem ggX1_countFailures_X1_checkSort : GoodIn wsX1_countFailures wsX1_checkSort := goodIn_r _ [111, 112, 113, 2, 114, 4, 115, 116, 117, 118, 119, 120, 121, 122, 123, 124, 125, 126, 127, 128, 129, 130, 131, 132, 133, 134, 135, 16, 17, 18, 19, 20, 21, 22, 23, 24, 25, 26, 27, 28, 29, 30, 31, 32, 33, 34, 35, 36, 37, 38, 39, 40, 41, 42, 43, 44, 45, 46, 47, 48, 49, 50, 51, 52, 53, 54, 55, 56, 57, 58, 59, 60, 61, 62, 63, 64, 65, 66, 67, 68, 69, 70, 71, 72, 73, 74, 75, 76, 77, 78, 79, 80, 81, 82, 83, 84, 85, 86, 87, 88, 136, 137, 138, 139, 140, 141, 142, 143, 144, 145, 146, 147, 148, 149, 150, 151, 152, 153, 154, 155, 156, 157, 158, 159, 160, 161, 162, 163, 164, 165, 166, 167, 168, 169, 170, 171, 172, 173, 174, 175, 176, 177, 178, 179, 180, 181, 182, 183, 184, 185, 186, 187, 188, 189, 190, 95, 96, 97, 191, 192, 193, 194, 195, 196, 197, 198, 199, 200, 201, 202, 203, 204, 205, 206, 207, 208, 209, 210, 211, 212, 213, 214, 215, 216, 217, 218, 219, 220, 221, 222, 223, 224, 225, 226, 227, 228, 229, 230, 231, 232, 233, 234, 235, 236, 237, 238, 239, 102, 103, 104, 105, 106, 107, 98, 99, 100, 92, 101, 1, 240, 241, 242, 243, 244, 245, 246, 247, 248, 249, 250, 251, 252, 253, 254, 255, 256, 257, 258, 259, 260, 261, 262, 263, 264, 265, 266, 267, 268, 269, 270, 271, 272, 273, 274, 275, 276, 277, 278, 279, 280, 281, 282, 283, 284, 285, 286, 287, 288, 289, 290, 291, 292, 293, 294, 295, 296, 297, 298, 299, 300, 301, 302, 303, 304, 305, 306, 307, 308, 309, 310, 311, 312, 313, 314, 328, 329, 330, 331, 332, 333, 334, 335, 336, 337, 338, 339, 340, 341, 342, 343, 344, 345, 346, 347, 348, 349, 350, 323, 324, 315, 316, 317, 318, 319, 320, 321, 322, 325, 326, 327, 351, 352, 353, 354, 355, 356] (by decide +kernel) (by decide +kernel)
set_option maxRecDepth 20000 in
theorem gX1_countFailures_X1_checkSort : GoodIn wsX1_countFailures (wsV RX1 79 RX1 yX1_checkSort wsX1_checkSort) := goodIn_app (goodIn_of _ (by decide +kernel)) ggX1_countFailures_X1_checkSort
theorem dX1_countFailures_0 : decode cX1_countFailures 0 = .ok (.aload_n 0, 1) := by decide +kernel
theorem dX1_countFailures_1 : decode cX1_countFailures 1 = .ok (.iconst 0, 1) := by decide +kernel
theorem dX1_countFailures_2 : decode cX1_countFailures 2 = .ok (.putfield 57, 3) := by decide +kernel
theorem dX1_countFailures_5 : decode cX1_countFailures 5 = .ok (.aload_n 0, 1) := by decide +kernel
theorem dX1_countFailures_6 : decode cX1_countFailures 6 = .ok (.getfield 35, 3) := by decide +kernel
theorem dX1_countFailures_9 : decode cX1_countFailures 9 = .ok (.aload_n 3, 1) := by decide +kernel
theorem dX1_countFailures_10 : decode cX1_countFailures 10 = .ok (.invokevirtual 61, 3) := by decide +kernel
theorem dX1_countFailures_13 : decode cX1_countFailures 13 = .ok (.iconst 0, 1) := by decide +kernel
theorem dX1_countFailures_14 : decode cX1_countFailures 14 = .ok (.istore 4, 2) := by decide +kernel
theorem dX1_countFailures_16 : decode cX1_countFailures 16 = .ok (.iload 4, 2) := by decide +kernel
theorem dX1_countFailures_18 : decode cX1_countFailures 18 = .ok (.iconst 2, 1) := by decide +kernel
theorem dX1_countFailures_19 : decode cX1_countFailures 19 = .ok (.if_icmp .gt 77, 3) := by decide +kernel
theorem dX1_countFailures_22 : decode cX1_countFailures 22 = .ok (.aload_n 0, 1) := by decide +kernel
theorem dX1_countFailures_23 : decode cX1_countFailures 23 = .ok (.getfield 35, 3) := by decide +kernel
theorem dX1_countFailures_26 : decode cX1_countFailures 26 = .ok (.iload 4, 2) := by decide +kernel
theorem dX1_countFailures_28 : decode cX1_countFailures 28 = .ok (.putfield 65, 3) := by decide +kernel
theorem dX1_countFailures_31 : decode cX1_countFailures 31 = .ok (.aload_n 0, 1) := by decide +kernel
theorem dX1_countFailures_32 : decode cX1_countFailures 32 = .ok (.getfield 12, 3) := by decide +kernel
theorem dX1_countFailures_35 : decode cX1_countFailures 35 = .ok (.aload_n 1, 1) := by decide +kernel
theorem dX1_countFailures_36 : decode cX1_countFailures 36 = .ok (.aload_n 2, 1) := by decide +kernel
theorem dX1_countFailures_37 : decode cX1_countFailures 37 = .ok (.aload_n 0, 1) := by decide +kernel
theorem dX1_countFailures_38 : decode cX1_countFailures 38 = .ok (.getfield 35, 3) := by decide +kernel
theorem dX1_countFailures_41 : decode cX1_countFailures 41 = .ok (.aload_n 0, 1) := by decide +kernel
theorem dX1_countFailures_42 : decode cX1_countFailures 42 = .ok (.getfield 42, 3) := by decide +kernel
theorem dX1_countFailures_45 : decode cX1_countFailures 45 = .ok (.invokevirtual 68, 3) := by decide +kernel
theorem dX1_countFailures_48 : decode cX1_countFailures 48 = .ok (.iload 4, 2) := by decide +kernel
theorem dX1_countFailures_50 : decode cX1_countFailures 50 = .ok (.iconst 1, 1) := by decide +kernel
theorem dX1_countFailures_51 : decode cX1_countFailures 51 = .ok (.if_icmp .ne 9, 3) := by decide +kernel
theorem dX1_countFailures_54 : decode cX1_countFailures 54 = .ok (.aload_n 0, 1) := by decide +kernel
theorem dX1_countFailures_55 : decode cX1_countFailures 55 = .ok (.aload_n 1, 1) := by decide +kernel
theorem dX1_countFailures_56 : decode cX1_countFailures 56 = .ok (.aload_n 2, 1) := by decide +kernel
theorem dX1_countFailures_57 : decode cX1_countFailures 57 = .ok (.invokevirtual 72, 3) := by decide +kernel
theorem dX1_countFailures_60 : decode cX1_countFailures 60 = .ok (.iconst 0, 1) := by decide +kernel
theorem dX1_countFailures_61 : decode cX1_countFailures 61 = .ok (.istore 5, 2) := by decide +kernel
theorem dX1_countFailures_63 : decode cX1_countFailures 63 = .ok (.iload 5, 2) := by decide +kernel
theorem dX1_countFailures_65 : decode cX1_countFailures 65 = .ok (.iconst 2, 1) := by decide +kernel
theorem dX1_countFailures_66 : decode cX1_countFailures 66 = .ok (.if_icmp .gt 24, 3) := by decide +kernel
theorem dX1_countFailures_69 : decode cX1_countFailures 69 = .ok (.aload_n 0, 1) := by decide +kernel
theorem dX1_countFailures_70 : decode cX1_countFailures 70 = .ok (.getfield 35, 3) := by decide +kernel
theorem dX1_countFailures_73 : decode cX1_countFailures 73 = .ok (.iload 5, 2) := by decide +kernel
theorem dX1_countFailures_75 : decode cX1_countFailures 75 = .ok (.putfield 76, 3) := by decide +kernel
theorem dX1_countFailures_78 : decode cX1_countFailures 78 = .ok (.aload_n 0, 1) := by decide +kernel
theorem dX1_countFailures_79 : decode cX1_countFailures 79 = .ok (.aload_n 1, 1) := by decide +kernel
theorem dX1_countFailures_80 : decode cX1_countFailures 80 = .ok (.aload_n 2, 1) := by decide +kernel
theorem dX1_countFailures_81 : decode cX1_countFailures 81 = .ok (.invokevirtual 79, 3) := by decide +kernel
theorem dX1_countFailures_84 : decode cX1_countFailures 84 = .ok (.iinc 5 1, 3) := by decide +kernel
theorem dX1_countFailures_87 : decode cX1_countFailures 87 = .ok (.goto (-24), 3) := by decide +kernel
theorem dX1_countFailures_90 : decode cX1_countFailures 90 = .ok (.iinc 4 1, 3) := by decide +kernel
theorem dX1_countFailures_93 : decode cX1_countFailures 93 = .ok (.goto (-77), 3) := by decide +kernel
theorem dX1_countFailures_96 : decode cX1_countFailures 96 = .ok (.aload_n 0, 1) := by decide +kernel
theorem dX1_countFailures_97 : decode cX1_countFailures 97 = .ok (.getfield 57, 3) := by decide +kernel
theorem dX1_countFailures_100 : decode cX1_countFailures 100 = .ok (.ireturn, 1) := by decide +kernel
theorem dX1_demand_0 : decode cX1_demand 0 = .ok (.aload_n 0, 1) := by decide +kernel
theorem dX1_demand_1 : decode cX1_demand 1 = .ok (.dup, 1) := by decide +kernel
theorem dX1_demand_2 : decode cX1_demand 2 = .ok (.getfield 57, 3) := by decide +kernel
theorem dX1_demand_5 : decode cX1_demand 5 = .ok (.iload_n 1, 1) := by decide +kernel
theorem dX1_demand_6 : decode cX1_demand 6 = .ok (.ifCond .eq 7, 3) := by decide +kernel
theorem dX1_demand_9 : decode cX1_demand 9 = .ok (.iconst 0, 1) := by decide +kernel
theorem dX1_demand_10 : decode cX1_demand 10 = .ok (.goto 4, 3) := by decide +kernel
theorem dX1_demand_13 : decode cX1_demand 13 = .ok (.iconst 1, 1) := by decide +kernel
theorem dX1_demand_14 : decode cX1_demand 14 = .ok (.iadd, 1) := by decide +kernel
theorem dX1_demand_15 : decode cX1_demand 15 = .ok (.putfield 57, 3) := by decide +kernel
theorem dX1_demand_18 : decode cX1_demand 18 = .ok (.return_, 1) := by decide +kernel
set_option maxRecDepth 20000 in
theorem ggX1_checkReplacement_X7_lengthOf : GoodIn wsX1_checkReplacement wsX7_lengthOf := goodIn_r _ [7, 8, 9, 41, 42, 43, 44, 45] (by decide +kernel) (by decide +kernel)
set_option maxRecDepth 20000 in
theorem gX1_checkReplacement_X7_lengthOf : GoodIn wsX1_checkReplacement (wsV RX1 85 RX7 yX7_lengthOf wsX7_lengthOf) := goodIn_app (goodIn_of _ (by decide +kernel)) ggX1_checkReplacement_X7_lengthOf
set_option maxRecDepth 20000 in
theorem ggX1_checkReplacement_X1_demand : GoodIn wsX1_checkReplacement wsX1_demand := goodIn_r _ [14, 15, 33, 34, 35, 36, 37, 38, 39, 40] (by decide +kernel) (by decide +kernel)
set_option maxRecDepth 20000 in
theorem gX1_checkReplacement_X1_demand : GoodIn wsX1_checkReplacement (wsV RX1 92 RX1 yX1_demand wsX1_demand) := goodIn_app (goodIn_of _ (by decide +kernel)) ggX1_checkReplacement_X1_demand
set_option maxRecDepth 20000 in
theorem ggX1_checkReplacement_X9_isInOrder : GoodIn wsX1_checkReplacement wsX9_isInOrder := goodIn_r _ [20, 21, 22, 23, 24, 19, 25, 26, 27, 28, 29, 30, 31, 32, 51, 52, 53, 54, 55] (by decide +kernel) (by decide +kernel)
set_option maxRecDepth 20000 in
theorem gX1_checkReplacement_X9_isInOrder : GoodIn wsX1_checkReplacement (wsV RX1 99 RX9 yX9_isInOrder wsX9_isInOrder) := goodIn_app (goodIn_of _ (by decide +kernel)) ggX1_checkReplacement_X9_isInOrder
theorem dX1_checkReplacement_0 : decode cX1_checkReplacement 0 = .ok (.iconst 0, 1) := by decide +kernel
theorem dX1_checkReplacement_1 : decode cX1_checkReplacement 1 = .ok (.istore_n 3, 1) := by decide +kernel
theorem dX1_checkReplacement_2 : decode cX1_checkReplacement 2 = .ok (.iload_n 3, 1) := by decide +kernel
theorem dX1_checkReplacement_3 : decode cX1_checkReplacement 3 = .ok (.iconst 1, 1) := by decide +kernel
theorem dX1_checkReplacement_4 : decode cX1_checkReplacement 4 = .ok (.iadd, 1) := by decide +kernel
theorem dX1_checkReplacement_5 : decode cX1_checkReplacement 5 = .ok (.aload_n 0, 1) := by decide +kernel
theorem dX1_checkReplacement_6 : decode cX1_checkReplacement 6 = .ok (.getfield 42, 3) := by decide +kernel
theorem dX1_checkReplacement_9 : decode cX1_checkReplacement 9 = .ok (.getfield 82, 3) := by decide +kernel
theorem dX1_checkReplacement_12 : decode cX1_checkReplacement 12 = .ok (.if_icmp .ge 36, 3) := by decide +kernel
theorem dX1_checkReplacement_15 : decode cX1_checkReplacement 15 = .ok (.aload_n 0, 1) := by decide +kernel
theorem dX1_checkReplacement_16 : decode cX1_checkReplacement 16 = .ok (.aload_n 0, 1) := by decide +kernel
theorem dX1_checkReplacement_17 : decode cX1_checkReplacement 17 = .ok (.getfield 42, 3) := by decide +kernel
theorem dX1_checkReplacement_20 : decode cX1_checkReplacement 20 = .ok (.iload_n 3, 1) := by decide +kernel
theorem dX1_checkReplacement_21 : decode cX1_checkReplacement 21 = .ok (.invokevirtual 85, 3) := by decide +kernel
theorem dX1_checkReplacement_24 : decode cX1_checkReplacement 24 = .ok (.aload_n 0, 1) := by decide +kernel
theorem dX1_checkReplacement_25 : decode cX1_checkReplacement 25 = .ok (.getfield 35, 3) := by decide +kernel
theorem dX1_checkReplacement_28 : decode cX1_checkReplacement 28 = .ok (.getfield 89, 3) := by decide +kernel
theorem dX1_checkReplacement_31 : decode cX1_checkReplacement 31 = .ok (.if_icmp .lt 7, 3) := by decide +kernel
theorem dX1_checkReplacement_34 : decode cX1_checkReplacement 34 = .ok (.iconst 1, 1) := by decide +kernel
theorem dX1_checkReplacement_35 : decode cX1_checkReplacement 35 = .ok (.goto 4, 3) := by decide +kernel
theorem dX1_checkReplacement_38 : decode cX1_checkReplacement 38 = .ok (.iconst 0, 1) := by decide +kernel
theorem dX1_checkReplacement_39 : decode cX1_checkReplacement 39 = .ok (.invokevirtual 92, 3) := by decide +kernel
theorem dX1_checkReplacement_42 : decode cX1_checkReplacement 42 = .ok (.iinc 3 1, 3) := by decide +kernel
theorem dX1_checkReplacement_45 : decode cX1_checkReplacement 45 = .ok (.goto (-43), 3) := by decide +kernel
theorem dX1_checkReplacement_48 : decode cX1_checkReplacement 48 = .ok (.aload_n 0, 1) := by decide +kernel
theorem dX1_checkReplacement_49 : decode cX1_checkReplacement 49 = .ok (.aload_n 0, 1) := by decide +kernel
theorem dX1_checkReplacement_50 : decode cX1_checkReplacement 50 = .ok (.getfield 42, 3) := by decide +kernel
theorem dX1_checkReplacement_53 : decode cX1_checkReplacement 53 = .ok (.getfield 82, 3) := by decide +kernel
theorem dX1_checkReplacement_56 : decode cX1_checkReplacement 56 = .ok (.iconst 1, 1) := by decide +kernel
theorem dX1_checkReplacement_57 : decode cX1_checkReplacement 57 = .ok (.if_icmp .le 18, 3) := by decide +kernel
theorem dX1_checkReplacement_60 : decode cX1_checkReplacement 60 = .ok (.aload_n 2, 1) := by decide +kernel
theorem dX1_checkReplacement_61 : decode cX1_checkReplacement 61 = .ok (.aload_n 1, 1) := by decide +kernel
theorem dX1_checkReplacement_62 : decode cX1_checkReplacement 62 = .ok (.aload_n 0, 1) := by decide +kernel
theorem dX1_checkReplacement_63 : decode cX1_checkReplacement 63 = .ok (.getfield 35, 3) := by decide +kernel
theorem dX1_checkReplacement_66 : decode cX1_checkReplacement 66 = .ok (.getfield 96, 3) := by decide +kernel
theorem dX1_checkReplacement_69 : decode cX1_checkReplacement 69 = .ok (.invokevirtual 99, 3) := by decide +kernel
theorem dX1_checkReplacement_72 : decode cX1_checkReplacement 72 = .ok (.ifCond .ne 7, 3) := by decide +kernel
theorem dX1_checkReplacement_75 : decode cX1_checkReplacement 75 = .ok (.iconst 1, 1) := by decide +kernel
theorem dX1_checkReplacement_76 : decode cX1_checkReplacement 76 = .ok (.goto 4, 3) := by decide +kernel
theorem dX1_checkReplacement_79 : decode cX1_checkReplacement 79 = .ok (.iconst 0, 1) := by decide +kernel
theorem dX1_checkReplacement_80 : decode cX1_checkReplacement 80 = .ok (.invokevirtual 92, 3) := by decide +kernel
theorem dX1_checkReplacement_83 : decode cX1_checkReplacement 83 = .ok (.return_, 1) := by decide +kernel
set_option maxRecDepth 20000 in
theorem ggX1_checkSort_X2_doWhole : GoodIn wsX1_checkSort wsX2_doWhole := goodIn_r _ [10, 11, 12, 13, 9, 14, 15, 16, 17, 18, 19, 20, 21, 22, 23, 24, 25, 26, 27, 28, 29, 30, 31, 32, 33, 34, 35, 36, 37, 38, 39, 40, 41, 42, 43, 44, 45, 46, 47, 48, 49, 50, 51, 52, 53, 54, 55, 56, 57, 58, 59, 60, 61, 62, 63, 64, 65, 66, 67, 68, 69, 70, 71, 72, 73, 74, 75, 76, 77, 78, 79, 80, 81, 82, 83, 84, 85, 86, 87, 88, 89, 90, 91, 92, 93, 94, 95, 96, 97, 98, 99, 100, 101, 102, 103, 104, 105, 106, 107, 108, 109, 110, 111, 112, 113, 114, 115, 116, 117, 118, 119, 120, 121, 122, 123, 124, 125, 126, 127, 128, 129, 130, 131, 132, 133, 134, 135, 136, 137, 138, 139, 140, 141, 142, 143, 144, 145, 146, 147, 148, 149, 150, 151, 152, 153, 154, 155, 156, 157, 158, 159, 160, 161, 162, 163, 164, 165, 166, 167, 168, 169, 170, 171, 172, 173, 174, 175, 176, 177, 178, 179, 180, 181, 182, 183, 184, 185, 186, 187, 188, 189, 190, 191, 192, 193, 194, 195, 196, 197, 198, 199, 200, 201, 202, 203, 204, 205, 206, 302, 303, 304, 305, 306, 307, 308, 309, 310, 311, 312, 313, 314, 315, 316, 319, 320, 321, 322, 323, 317, 318, 289, 290, 291, 292, 293, 324, 325, 326, 327, 328, 329, 330, 331, 332, 333, 334, 335] (by decide +kernel) (by decide +kernel)
set_option maxRecDepth 20000 in
theorem gX1_checkSort_X2_doWhole : GoodIn wsX1_checkSort (wsV RX1 103 RX2 yX2_doWhole wsX2_doWhole) := goodIn_app (goodIn_of _ (by decide +kernel)) ggX1_checkSort_X2_doWhole
set_option maxRecDepth 20000 in
theorem ggX1_checkSort_X9_isInOrder : GoodIn wsX1_checkSort wsX9_isInOrder := goodIn_r _ [210, 56, 211, 52, 53, 54, 55, 57, 212, 59, 60, 61, 62, 63, 317, 318, 327, 328, 329] (by decide +kernel) (by decide +kernel)
set_option maxRecDepth 20000 in
theorem gX1_checkSort_X9_isInOrder : GoodIn wsX1_checkSort (wsV RX1 99 RX9 yX9_isInOrder wsX9_isInOrder) := goodIn_app (goodIn_of _ (by decide +kernel)) ggX1_checkSort_X9_isInOrder
set_option maxRecDepth 20000 in
theorem ggX1_checkSort_X1_demand : GoodIn wsX1_checkSort wsX1_demand := goodIn_r _ [217, 218, 281, 282, 283, 284, 285, 286, 287, 288] (by decide +kernel) (by decide +kernel)
set_option maxRecDepth 20000 in
theorem gX1_checkSort_X1_demand : GoodIn wsX1_checkSort (wsV RX1 92 RX1 yX1_demand wsX1_demand) := goodIn_app (goodIn_of _ (by decide +kernel)) ggX1_checkSort_X1_demand
set_option maxRecDepth 20000 in
theorem ggX1_checkSort_X1_hasSameRecords : GoodIn wsX1_checkSort wsX1_hasSameRecords := goodIn_r _ [222, 223, 2, 224, 225, 226, 216, 227, 228, 52, 53, 54, 55, 56, 57, 281, 282, 283, 284, 285, 286, 287, 288, 317, 318] (by decide +kernel) (by decide +kernel)
set_option maxRecDepth 20000 in
theorem gX1_checkSort_X1_hasSameRecords : GoodIn wsX1_checkSort (wsV RX1 107 RX1 yX1_hasSameRecords wsX1_hasSameRecords) := goodIn_app (goodIn_of _ (by decide +kernel)) ggX1_checkSort_X1_hasSameRecords
set_option maxRecDepth 20000 in
theorem ggX1_checkSort_X4_tell : GoodIn wsX1_checkSort wsX4_tell := goodIn_r _ [233, 234, 235, 236, 237, 238, 239, 101, 102, 103, 104, 105, 106, 32, 33, 34, 107, 36, 37, 108, 109, 110, 111, 112, 113, 114, 115, 240, 241, 242, 232, 243, 244, 245, 246, 155, 156, 41, 157, 43, 73, 247, 248, 249, 250, 251, 252, 253, 127, 128, 129, 130, 131, 132, 133, 134, 135, 136, 137, 138, 139, 140, 141, 142, 254, 173, 174, 175, 255, 256, 257, 258, 259, 151, 152, 153, 260, 261, 262, 263, 264, 265, 266, 267, 268, 189, 190, 191, 294, 295, 296, 297, 298, 299, 300, 301, 319, 320, 321, 322, 323, 289, 290, 291, 292, 293, 330, 331, 332, 333, 334, 335] (by decide +kernel) (by decide +kernel)
set_option maxRecDepth 20000 in
theorem gX1_checkSort_X4_tell : GoodIn wsX1_checkSort (wsV RX1 111 RX4 yX4_tell wsX4_tell) := goodIn_app (goodIn_of _ (by decide +kernel)) ggX1_checkSort_X4_tell
set_option maxRecDepth 20000 in
theorem ggX1_checkSort_X1_passesNeeded : GoodIn wsX1_checkSort wsX1_passesNeeded := goodIn_r _ [272, 5, 3, 281, 282, 283, 284, 285, 286, 287, 288, 319, 320, 321, 322, 323, 289, 290, 291, 292, 293] (by decide +kernel) (by decide +kernel)
set_option maxRecDepth 20000 in
theorem gX1_checkSort_X1_passesNeeded : GoodIn wsX1_checkSort (wsV RX1 130 RX1 yX1_passesNeeded wsX1_passesNeeded) := goodIn_app (goodIn_of _ (by decide +kernel)) ggX1_checkSort_X1_passesNeeded
set_option maxRecDepth 20000 in
theorem ggX1_checkSort_X4_fewestMoves : GoodIn wsX1_checkSort wsX4_fewestMoves := goodIn_r _ [276, 238, 245, 240, 241, 242, 232, 243, 244, 32, 33, 34, 246, 155, 156, 41, 157, 43, 73, 277, 278, 279, 280, 319, 320, 321, 322, 323, 294, 295, 296, 297, 298, 299, 300, 301] (by decide +kernel) (by decide +kernel)
set_option maxRecDepth 20000 in
theorem gX1_checkSort_X4_fewestMoves : GoodIn wsX1_checkSort (wsV RX1 134 RX4 yX4_fewestMoves wsX4_fewestMoves) := goodIn_app (goodIn_of _ (by decide +kernel)) ggX1_checkSort_X4_fewestMoves
theorem dX1_checkSort_0 : decode cX1_checkSort 0 = .ok (.aload_n 0, 1) := by decide +kernel
theorem dX1_checkSort_1 : decode cX1_checkSort 1 = .ok (.getfield 21, 3) := by decide +kernel
theorem dX1_checkSort_4 : decode cX1_checkSort 4 = .ok (.aload_n 1, 1) := by decide +kernel
theorem dX1_checkSort_5 : decode cX1_checkSort 5 = .ok (.aload_n 2, 1) := by decide +kernel
theorem dX1_checkSort_6 : decode cX1_checkSort 6 = .ok (.aload_n 0, 1) := by decide +kernel
theorem dX1_checkSort_7 : decode cX1_checkSort 7 = .ok (.getfield 49, 3) := by decide +kernel
theorem dX1_checkSort_10 : decode cX1_checkSort 10 = .ok (.aload_n 0, 1) := by decide +kernel
theorem dX1_checkSort_11 : decode cX1_checkSort 11 = .ok (.getfield 35, 3) := by decide +kernel
theorem dX1_checkSort_14 : decode cX1_checkSort 14 = .ok (.invokevirtual 103, 3) := by decide +kernel
theorem dX1_checkSort_17 : decode cX1_checkSort 17 = .ok (.aload_n 0, 1) := by decide +kernel
theorem dX1_checkSort_18 : decode cX1_checkSort 18 = .ok (.aload_n 0, 1) := by decide +kernel
theorem dX1_checkSort_19 : decode cX1_checkSort 19 = .ok (.getfield 49, 3) := by decide +kernel
theorem dX1_checkSort_22 : decode cX1_checkSort 22 = .ok (.aload_n 1, 1) := by decide +kernel
theorem dX1_checkSort_23 : decode cX1_checkSort 23 = .ok (.aload_n 0, 1) := by decide +kernel
theorem dX1_checkSort_24 : decode cX1_checkSort 24 = .ok (.getfield 35, 3) := by decide +kernel
theorem dX1_checkSort_27 : decode cX1_checkSort 27 = .ok (.getfield 96, 3) := by decide +kernel
theorem dX1_checkSort_30 : decode cX1_checkSort 30 = .ok (.invokevirtual 99, 3) := by decide +kernel
theorem dX1_checkSort_33 : decode cX1_checkSort 33 = .ok (.invokevirtual 92, 3) := by decide +kernel
theorem dX1_checkSort_36 : decode cX1_checkSort 36 = .ok (.aload_n 0, 1) := by decide +kernel
theorem dX1_checkSort_37 : decode cX1_checkSort 37 = .ok (.aload_n 0, 1) := by decide +kernel
theorem dX1_checkSort_38 : decode cX1_checkSort 38 = .ok (.aload_n 2, 1) := by decide +kernel
theorem dX1_checkSort_39 : decode cX1_checkSort 39 = .ok (.invokevirtual 107, 3) := by decide +kernel
theorem dX1_checkSort_42 : decode cX1_checkSort 42 = .ok (.invokevirtual 92, 3) := by decide +kernel
theorem dX1_checkSort_45 : decode cX1_checkSort 45 = .ok (.aload_n 0, 1) := by decide +kernel
theorem dX1_checkSort_46 : decode cX1_checkSort 46 = .ok (.getfield 28, 3) := by decide +kernel
theorem dX1_checkSort_49 : decode cX1_checkSort 49 = .ok (.aload_n 0, 1) := by decide +kernel
theorem dX1_checkSort_50 : decode cX1_checkSort 50 = .ok (.getfield 42, 3) := by decide +kernel
theorem dX1_checkSort_53 : decode cX1_checkSort 53 = .ok (.aload_n 0, 1) := by decide +kernel
theorem dX1_checkSort_54 : decode cX1_checkSort 54 = .ok (.getfield 35, 3) := by decide +kernel
theorem dX1_checkSort_57 : decode cX1_checkSort 57 = .ok (.invokevirtual 111, 3) := by decide +kernel
theorem dX1_checkSort_60 : decode cX1_checkSort 60 = .ok (.aload_n 0, 1) := by decide +kernel
theorem dX1_checkSort_61 : decode cX1_checkSort 61 = .ok (.aload_n 0, 1) := by decide +kernel
theorem dX1_checkSort_62 : decode cX1_checkSort 62 = .ok (.getfield 28, 3) := by decide +kernel
theorem dX1_checkSort_65 : decode cX1_checkSort 65 = .ok (.getfield 115, 3) := by decide +kernel
theorem dX1_checkSort_68 : decode cX1_checkSort 68 = .ok (.aload_n 0, 1) := by decide +kernel
theorem dX1_checkSort_69 : decode cX1_checkSort 69 = .ok (.getfield 21, 3) := by decide +kernel
theorem dX1_checkSort_72 : decode cX1_checkSort 72 = .ok (.getfield 118, 3) := by decide +kernel
theorem dX1_checkSort_75 : decode cX1_checkSort 75 = .ok (.if_icmp .ne 7, 3) := by decide +kernel
theorem dX1_checkSort_78 : decode cX1_checkSort 78 = .ok (.iconst 1, 1) := by decide +kernel
theorem dX1_checkSort_79 : decode cX1_checkSort 79 = .ok (.goto 4, 3) := by decide +kernel
theorem dX1_checkSort_82 : decode cX1_checkSort 82 = .ok (.iconst 0, 1) := by decide +kernel
theorem dX1_checkSort_83 : decode cX1_checkSort 83 = .ok (.invokevirtual 92, 3) := by decide +kernel
theorem dX1_checkSort_86 : decode cX1_checkSort 86 = .ok (.aload_n 0, 1) := by decide +kernel
theorem dX1_checkSort_87 : decode cX1_checkSort 87 = .ok (.aload_n 0, 1) := by decide +kernel
theorem dX1_checkSort_88 : decode cX1_checkSort 88 = .ok (.getfield 28, 3) := by decide +kernel
theorem dX1_checkSort_91 : decode cX1_checkSort 91 = .ok (.getfield 119, 3) := by decide +kernel
theorem dX1_checkSort_94 : decode cX1_checkSort 94 = .ok (.aload_n 0, 1) := by decide +kernel
theorem dX1_checkSort_95 : decode cX1_checkSort 95 = .ok (.getfield 21, 3) := by decide +kernel
theorem dX1_checkSort_98 : decode cX1_checkSort 98 = .ok (.getfield 122, 3) := by decide +kernel
theorem dX1_checkSort_101 : decode cX1_checkSort 101 = .ok (.if_icmp .ne 7, 3) := by decide +kernel
theorem dX1_checkSort_104 : decode cX1_checkSort 104 = .ok (.iconst 1, 1) := by decide +kernel
theorem dX1_checkSort_105 : decode cX1_checkSort 105 = .ok (.goto 4, 3) := by decide +kernel
theorem dX1_checkSort_108 : decode cX1_checkSort 108 = .ok (.iconst 0, 1) := by decide +kernel
theorem dX1_checkSort_109 : decode cX1_checkSort 109 = .ok (.invokevirtual 92, 3) := by decide +kernel
theorem dX1_checkSort_112 : decode cX1_checkSort 112 = .ok (.aload_n 0, 1) := by decide +kernel
theorem dX1_checkSort_113 : decode cX1_checkSort 113 = .ok (.aload_n 0, 1) := by decide +kernel
theorem dX1_checkSort_114 : decode cX1_checkSort 114 = .ok (.getfield 28, 3) := by decide +kernel
theorem dX1_checkSort_117 : decode cX1_checkSort 117 = .ok (.getfield 123, 3) := by decide +kernel
theorem dX1_checkSort_120 : decode cX1_checkSort 120 = .ok (.aload_n 2, 1) := by decide +kernel
theorem dX1_checkSort_121 : decode cX1_checkSort 121 = .ok (.getfield 126, 3) := by decide +kernel
theorem dX1_checkSort_124 : decode cX1_checkSort 124 = .ok (.iadd, 1) := by decide +kernel
theorem dX1_checkSort_125 : decode cX1_checkSort 125 = .ok (.aload_n 0, 1) := by decide +kernel
theorem dX1_checkSort_126 : decode cX1_checkSort 126 = .ok (.getfield 21, 3) := by decide +kernel
theorem dX1_checkSort_129 : decode cX1_checkSort 129 = .ok (.getfield 129, 3) := by decide +kernel
theorem dX1_checkSort_132 : decode cX1_checkSort 132 = .ok (.if_icmp .ne 7, 3) := by decide +kernel
theorem dX1_checkSort_135 : decode cX1_checkSort 135 = .ok (.iconst 1, 1) := by decide +kernel
theorem dX1_checkSort_136 : decode cX1_checkSort 136 = .ok (.goto 4, 3) := by decide +kernel
theorem dX1_checkSort_139 : decode cX1_checkSort 139 = .ok (.iconst 0, 1) := by decide +kernel
theorem dX1_checkSort_140 : decode cX1_checkSort 140 = .ok (.invokevirtual 92, 3) := by decide +kernel
theorem dX1_checkSort_143 : decode cX1_checkSort 143 = .ok (.aload_n 0, 1) := by decide +kernel
theorem dX1_checkSort_144 : decode cX1_checkSort 144 = .ok (.getfield 35, 3) := by decide +kernel
theorem dX1_checkSort_147 : decode cX1_checkSort 147 = .ok (.getfield 76, 3) := by decide +kernel
theorem dX1_checkSort_150 : decode cX1_checkSort 150 = .ok (.ifCond .ne 26, 3) := by decide +kernel
theorem dX1_checkSort_153 : decode cX1_checkSort 153 = .ok (.aload_n 0, 1) := by decide +kernel
theorem dX1_checkSort_154 : decode cX1_checkSort 154 = .ok (.aload_n 0, 1) := by decide +kernel
theorem dX1_checkSort_155 : decode cX1_checkSort 155 = .ok (.getfield 28, 3) := by decide +kernel
theorem dX1_checkSort_158 : decode cX1_checkSort 158 = .ok (.getfield 115, 3) := by decide +kernel
theorem dX1_checkSort_161 : decode cX1_checkSort 161 = .ok (.aload_n 0, 1) := by decide +kernel
theorem dX1_checkSort_162 : decode cX1_checkSort 162 = .ok (.invokevirtual 130, 3) := by decide +kernel
theorem dX1_checkSort_165 : decode cX1_checkSort 165 = .ok (.if_icmp .ne 7, 3) := by decide +kernel
theorem dX1_checkSort_168 : decode cX1_checkSort 168 = .ok (.iconst 1, 1) := by decide +kernel
theorem dX1_checkSort_169 : decode cX1_checkSort 169 = .ok (.goto 4, 3) := by decide +kernel
theorem dX1_checkSort_172 : decode cX1_checkSort 172 = .ok (.iconst 0, 1) := by decide +kernel
theorem dX1_checkSort_173 : decode cX1_checkSort 173 = .ok (.invokevirtual 92, 3) := by decide +kernel
theorem dX1_checkSort_176 : decode cX1_checkSort 176 = .ok (.aload_n 0, 1) := by decide +kernel
theorem dX1_checkSort_177 : decode cX1_checkSort 177 = .ok (.getfield 35, 3) := by decide +kernel
theorem dX1_checkSort_180 : decode cX1_checkSort 180 = .ok (.getfield 76, 3) := by decide +kernel
theorem dX1_checkSort_183 : decode cX1_checkSort 183 = .ok (.iconst 1, 1) := by decide +kernel
theorem dX1_checkSort_184 : decode cX1_checkSort 184 = .ok (.if_icmp .ne 35, 3) := by decide +kernel
theorem dX1_checkSort_187 : decode cX1_checkSort 187 = .ok (.aload_n 0, 1) := by decide +kernel
theorem dX1_checkSort_188 : decode cX1_checkSort 188 = .ok (.getfield 28, 3) := by decide +kernel
theorem dX1_checkSort_191 : decode cX1_checkSort 191 = .ok (.getfield 123, 3) := by decide +kernel
theorem dX1_checkSort_194 : decode cX1_checkSort 194 = .ok (.istore_n 3, 1) := by decide +kernel
theorem dX1_checkSort_195 : decode cX1_checkSort 195 = .ok (.aload_n 0, 1) := by decide +kernel
theorem dX1_checkSort_196 : decode cX1_checkSort 196 = .ok (.aload_n 0, 1) := by decide +kernel
theorem dX1_checkSort_197 : decode cX1_checkSort 197 = .ok (.getfield 28, 3) := by decide +kernel
theorem dX1_checkSort_200 : decode cX1_checkSort 200 = .ok (.aload_n 0, 1) := by decide +kernel
theorem dX1_checkSort_201 : decode cX1_checkSort 201 = .ok (.getfield 42, 3) := by decide +kernel
theorem dX1_checkSort_204 : decode cX1_checkSort 204 = .ok (.invokevirtual 134, 3) := by decide +kernel
theorem dX1_checkSort_207 : decode cX1_checkSort 207 = .ok (.iload_n 3, 1) := by decide +kernel
theorem dX1_checkSort_208 : decode cX1_checkSort 208 = .ok (.if_icmp .ne 7, 3) := by decide +kernel
theorem dX1_checkSort_211 : decode cX1_checkSort 211 = .ok (.iconst 1, 1) := by decide +kernel
theorem dX1_checkSort_212 : decode cX1_checkSort 212 = .ok (.goto 4, 3) := by decide +kernel
theorem dX1_checkSort_215 : decode cX1_checkSort 215 = .ok (.iconst 0, 1) := by decide +kernel
theorem dX1_checkSort_216 : decode cX1_checkSort 216 = .ok (.invokevirtual 92, 3) := by decide +kernel
theorem dX1_checkSort_219 : decode cX1_checkSort 219 = .ok (.return_, 1) := by decide +kernel
set_option maxRecDepth 20000 in
theorem ggX1_hasSameRecords_X1_countRecords : GoodIn wsX1_hasSameRecords wsX1_countRecords := goodIn_r _ [7, 1, 8, 9, 10, 11, 12, 13, 14, 23, 24, 15, 16, 17, 18, 19, 20, 21, 22] (by decide +kernel) (by decide +kernel)
set_option maxRecDepth 20000 in
theorem gX1_hasSameRecords_X1_countRecords : GoodIn wsX1_hasSameRecords (wsV RX1 138 RX1 yX1_countRecords wsX1_countRecords) := goodIn_app (goodIn_of _ (by decide +kernel)) ggX1_hasSameRecords_X1_countRecords
theorem dX1_hasSameRecords_0 : decode cX1_hasSameRecords 0 = .ok (.iconst 0, 1) := by decide +kernel
theorem dX1_hasSameRecords_1 : decode cX1_hasSameRecords 1 = .ok (.istore_n 2, 1) := by decide +kernel
theorem dX1_hasSameRecords_2 : decode cX1_hasSameRecords 2 = .ok (.iload_n 2, 1) := by decide +kernel
theorem dX1_hasSameRecords_3 : decode cX1_hasSameRecords 3 = .ok (.sipush 200, 3) := by decide +kernel
theorem dX1_hasSameRecords_6 : decode cX1_hasSameRecords 6 = .ok (.if_icmp .ge 16, 3) := by decide +kernel
theorem dX1_hasSameRecords_9 : decode cX1_hasSameRecords 9 = .ok (.aload_n 0, 1) := by decide +kernel
theorem dX1_hasSameRecords_10 : decode cX1_hasSameRecords 10 = .ok (.getfield 53, 3) := by decide +kernel
theorem dX1_hasSameRecords_13 : decode cX1_hasSameRecords 13 = .ok (.iload_n 2, 1) := by decide +kernel
theorem dX1_hasSameRecords_14 : decode cX1_hasSameRecords 14 = .ok (.iconst 0, 1) := by decide +kernel
theorem dX1_hasSameRecords_15 : decode cX1_hasSameRecords 15 = .ok (.iastore, 1) := by decide +kernel
theorem dX1_hasSameRecords_16 : decode cX1_hasSameRecords 16 = .ok (.iinc 2 1, 3) := by decide +kernel
theorem dX1_hasSameRecords_19 : decode cX1_hasSameRecords 19 = .ok (.goto (-17), 3) := by decide +kernel
theorem dX1_hasSameRecords_22 : decode cX1_hasSameRecords 22 = .ok (.aload_n 0, 1) := by decide +kernel
theorem dX1_hasSameRecords_23 : decode cX1_hasSameRecords 23 = .ok (.aload_n 1, 1) := by decide +kernel
theorem dX1_hasSameRecords_24 : decode cX1_hasSameRecords 24 = .ok (.iconst 1, 1) := by decide +kernel
theorem dX1_hasSameRecords_25 : decode cX1_hasSameRecords 25 = .ok (.invokevirtual 138, 3) := by decide +kernel
theorem dX1_hasSameRecords_28 : decode cX1_hasSameRecords 28 = .ok (.aload_n 0, 1) := by decide +kernel
theorem dX1_hasSameRecords_29 : decode cX1_hasSameRecords 29 = .ok (.aload_n 0, 1) := by decide +kernel
theorem dX1_hasSameRecords_30 : decode cX1_hasSameRecords 30 = .ok (.getfield 49, 3) := by decide +kernel
theorem dX1_hasSameRecords_33 : decode cX1_hasSameRecords 33 = .ok (.iconst (-1), 1) := by decide +kernel
theorem dX1_hasSameRecords_34 : decode cX1_hasSameRecords 34 = .ok (.invokevirtual 138, 3) := by decide +kernel
theorem dX1_hasSameRecords_37 : decode cX1_hasSameRecords 37 = .ok (.iconst 0, 1) := by decide +kernel
theorem dX1_hasSameRecords_38 : decode cX1_hasSameRecords 38 = .ok (.istore_n 2, 1) := by decide +kernel
theorem dX1_hasSameRecords_39 : decode cX1_hasSameRecords 39 = .ok (.iload_n 2, 1) := by decide +kernel
theorem dX1_hasSameRecords_40 : decode cX1_hasSameRecords 40 = .ok (.sipush 200, 3) := by decide +kernel
theorem dX1_hasSameRecords_43 : decode cX1_hasSameRecords 43 = .ok (.if_icmp .ge 20, 3) := by decide +kernel
theorem dX1_hasSameRecords_46 : decode cX1_hasSameRecords 46 = .ok (.aload_n 0, 1) := by decide +kernel
theorem dX1_hasSameRecords_47 : decode cX1_hasSameRecords 47 = .ok (.getfield 53, 3) := by decide +kernel
theorem dX1_hasSameRecords_50 : decode cX1_hasSameRecords 50 = .ok (.iload_n 2, 1) := by decide +kernel
theorem dX1_hasSameRecords_51 : decode cX1_hasSameRecords 51 = .ok (.iaload, 1) := by decide +kernel
theorem dX1_hasSameRecords_52 : decode cX1_hasSameRecords 52 = .ok (.ifCond .eq 5, 3) := by decide +kernel
theorem dX1_hasSameRecords_55 : decode cX1_hasSameRecords 55 = .ok (.iconst 0, 1) := by decide +kernel
theorem dX1_hasSameRecords_56 : decode cX1_hasSameRecords 56 = .ok (.ireturn, 1) := by decide +kernel
theorem dX1_hasSameRecords_57 : decode cX1_hasSameRecords 57 = .ok (.iinc 2 1, 3) := by decide +kernel
theorem dX1_hasSameRecords_60 : decode cX1_hasSameRecords 60 = .ok (.goto (-21), 3) := by decide +kernel
theorem dX1_hasSameRecords_63 : decode cX1_hasSameRecords 63 = .ok (.iconst 1, 1) := by decide +kernel
theorem dX1_hasSameRecords_64 : decode cX1_hasSameRecords 64 = .ok (.ireturn, 1) := by decide +kernel
set_option maxRecDepth 20000 in
theorem ggX1_countRecords_X9_recordAt : GoodIn wsX1_countRecords wsX9_recordAt := goodIn_r _ [6, 7, 8, 9, 10] (by decide +kernel) (by decide +kernel)
set_option maxRecDepth 20000 in
theorem gX1_countRecords_X9_recordAt : GoodIn wsX1_countRecords (wsV RX1 142 RX9 yX9_recordAt wsX9_recordAt) := goodIn_app (goodIn_of _ (by decide +kernel)) ggX1_countRecords_X9_recordAt
theorem dX1_countRecords_0 : decode cX1_countRecords 0 = .ok (.iconst 0, 1) := by decide +kernel
theorem dX1_countRecords_1 : decode cX1_countRecords 1 = .ok (.istore_n 3, 1) := by decide +kernel
theorem dX1_countRecords_2 : decode cX1_countRecords 2 = .ok (.iload_n 3, 1) := by decide +kernel
theorem dX1_countRecords_3 : decode cX1_countRecords 3 = .ok (.aload_n 1, 1) := by decide +kernel
theorem dX1_countRecords_4 : decode cX1_countRecords 4 = .ok (.getfield 126, 3) := by decide +kernel
theorem dX1_countRecords_7 : decode cX1_countRecords 7 = .ok (.if_icmp .ge 40, 3) := by decide +kernel
theorem dX1_countRecords_10 : decode cX1_countRecords 10 = .ok (.aload_n 1, 1) := by decide +kernel
theorem dX1_countRecords_11 : decode cX1_countRecords 11 = .ok (.iload_n 3, 1) := by decide +kernel
theorem dX1_countRecords_12 : decode cX1_countRecords 12 = .ok (.invokevirtual 142, 3) := by decide +kernel
theorem dX1_countRecords_15 : decode cX1_countRecords 15 = .ok (.istore 4, 2) := by decide +kernel
theorem dX1_countRecords_17 : decode cX1_countRecords 17 = .ok (.iload 4, 2) := by decide +kernel
theorem dX1_countRecords_19 : decode cX1_countRecords 19 = .ok (.ifCond .lt 22, 3) := by decide +kernel
theorem dX1_countRecords_22 : decode cX1_countRecords 22 = .ok (.iload 4, 2) := by decide +kernel
theorem dX1_countRecords_24 : decode cX1_countRecords 24 = .ok (.sipush 200, 3) := by decide +kernel
theorem dX1_countRecords_27 : decode cX1_countRecords 27 = .ok (.if_icmp .ge 14, 3) := by decide +kernel
theorem dX1_countRecords_30 : decode cX1_countRecords 30 = .ok (.aload_n 0, 1) := by decide +kernel
theorem dX1_countRecords_31 : decode cX1_countRecords 31 = .ok (.getfield 53, 3) := by decide +kernel
theorem dX1_countRecords_34 : decode cX1_countRecords 34 = .ok (.iload 4, 2) := by decide +kernel
theorem dX1_countRecords_36 : decode cX1_countRecords 36 = .ok (.dup2, 1) := by decide +kernel
theorem dX1_countRecords_37 : decode cX1_countRecords 37 = .ok (.iaload, 1) := by decide +kernel
theorem dX1_countRecords_38 : decode cX1_countRecords 38 = .ok (.iload_n 2, 1) := by decide +kernel
theorem dX1_countRecords_39 : decode cX1_countRecords 39 = .ok (.iadd, 1) := by decide +kernel
theorem dX1_countRecords_40 : decode cX1_countRecords 40 = .ok (.iastore, 1) := by decide +kernel
theorem dX1_countRecords_41 : decode cX1_countRecords 41 = .ok (.iinc 3 1, 3) := by decide +kernel
theorem dX1_countRecords_44 : decode cX1_countRecords 44 = .ok (.goto (-42), 3) := by decide +kernel
theorem dX1_countRecords_47 : decode cX1_countRecords 47 = .ok (.return_, 1) := by decide +kernel
theorem dX1_passesNeeded_0 : decode cX1_passesNeeded 0 = .ok (.iconst 0, 1) := by decide +kernel
theorem dX1_passesNeeded_1 : decode cX1_passesNeeded 1 = .ok (.istore_n 1, 1) := by decide +kernel
theorem dX1_passesNeeded_2 : decode cX1_passesNeeded 2 = .ok (.iconst 1, 1) := by decide +kernel
theorem dX1_passesNeeded_3 : decode cX1_passesNeeded 3 = .ok (.istore_n 2, 1) := by decide +kernel
theorem dX1_passesNeeded_4 : decode cX1_passesNeeded 4 = .ok (.iload_n 2, 1) := by decide +kernel
theorem dX1_passesNeeded_5 : decode cX1_passesNeeded 5 = .ok (.aload_n 0, 1) := by decide +kernel
theorem dX1_passesNeeded_6 : decode cX1_passesNeeded 6 = .ok (.getfield 42, 3) := by decide +kernel
theorem dX1_passesNeeded_9 : decode cX1_passesNeeded 9 = .ok (.getfield 82, 3) := by decide +kernel
theorem dX1_passesNeeded_12 : decode cX1_passesNeeded 12 = .ok (.if_icmp .ge 26, 3) := by decide +kernel
theorem dX1_passesNeeded_15 : decode cX1_passesNeeded 15 = .ok (.iload_n 1, 1) := by decide +kernel
theorem dX1_passesNeeded_16 : decode cX1_passesNeeded 16 = .ok (.sipush 200, 3) := by decide +kernel
theorem dX1_passesNeeded_19 : decode cX1_passesNeeded 19 = .ok (.if_icmp .ge 19, 3) := by decide +kernel
theorem dX1_passesNeeded_22 : decode cX1_passesNeeded 22 = .ok (.iinc 1 1, 3) := by decide +kernel
theorem dX1_passesNeeded_25 : decode cX1_passesNeeded 25 = .ok (.iload_n 2, 1) := by decide +kernel
theorem dX1_passesNeeded_26 : decode cX1_passesNeeded 26 = .ok (.aload_n 0, 1) := by decide +kernel
theorem dX1_passesNeeded_27 : decode cX1_passesNeeded 27 = .ok (.getfield 35, 3) := by decide +kernel
theorem dX1_passesNeeded_30 : decode cX1_passesNeeded 30 = .ok (.getfield 145, 3) := by decide +kernel
theorem dX1_passesNeeded_33 : decode cX1_passesNeeded 33 = .ok (.imul, 1) := by decide +kernel
theorem dX1_passesNeeded_34 : decode cX1_passesNeeded 34 = .ok (.istore_n 2, 1) := by decide +kernel
theorem dX1_passesNeeded_35 : decode cX1_passesNeeded 35 = .ok (.goto (-31), 3) := by decide +kernel
theorem dX1_passesNeeded_38 : decode cX1_passesNeeded 38 = .ok (.iload_n 1, 1) := by decide +kernel
theorem dX1_passesNeeded_39 : decode cX1_passesNeeded 39 = .ok (.ireturn, 1) := by decide +kernel
set_option maxRecDepth 20000 in
theorem ggX2_init_X6_init : GoodIn wsX2_init wsX6_init := goodIn_r _ [30, 31, 2, 3, 12, 32, 33, 34, 52, 53, 54] (by decide +kernel) (by decide +kernel)
set_option maxRecDepth 20000 in
theorem gX2_init_X6_init_n11 : GoodIn wsX2_init (wsX6_init) := ggX2_init_X6_init
set_option maxRecDepth 20000 in
theorem ggX2_init_X3_init : GoodIn wsX2_init wsX3_init := goodIn_r _ [36, 37, 2, 3, 12, 38, 39, 40, 41, 42, 43, 70, 71, 72, 73, 74, 75] (by decide +kernel) (by decide +kernel)
set_option maxRecDepth 20000 in
theorem gX2_init_X3_init_n20 : GoodIn wsX2_init (wsX3_init) := ggX2_init_X3_init
set_option maxRecDepth 20000 in
theorem ggX2_init_X7_init : GoodIn wsX2_init wsX7_init := goodIn_r _ [45, 46, 2, 3, 12, 47, 48, 49, 50, 51, 76, 77, 78, 79, 80] (by decide +kernel) (by decide +kernel)
set_option maxRecDepth 20000 in
theorem gX2_init_X7_init_n38 : GoodIn wsX2_init (wsX7_init) := ggX2_init_X7_init
theorem dX2_init_0 : decode cX2_init 0 = .ok (.aload_n 0, 1) := by decide +kernel
theorem dX2_init_1 : decode cX2_init 1 = .ok (.invokespecial 3, 3) := by decide +kernel
theorem dX2_init_4 : decode cX2_init 4 = .ok (.aload_n 0, 1) := by decide +kernel
theorem dX2_init_5 : decode cX2_init 5 = .ok (.new 9, 3) := by decide +kernel
theorem dX2_init_8 : decode cX2_init 8 = .ok (.dup, 1) := by decide +kernel
theorem dX2_init_9 : decode cX2_init 9 = .ok (.invokespecial 11, 3) := by decide +kernel
theorem dX2_init_12 : decode cX2_init 12 = .ok (.putfield 12, 3) := by decide +kernel
theorem dX2_init_15 : decode cX2_init 15 = .ok (.aload_n 0, 1) := by decide +kernel
theorem dX2_init_16 : decode cX2_init 16 = .ok (.new 18, 3) := by decide +kernel
theorem dX2_init_19 : decode cX2_init 19 = .ok (.dup, 1) := by decide +kernel
theorem dX2_init_20 : decode cX2_init 20 = .ok (.invokespecial 20, 3) := by decide +kernel
theorem dX2_init_23 : decode cX2_init 23 = .ok (.putfield 21, 3) := by decide +kernel
theorem dX2_init_26 : decode cX2_init 26 = .ok (.aload_n 0, 1) := by decide +kernel
theorem dX2_init_27 : decode cX2_init 27 = .ok (.bipush 6, 2) := by decide +kernel
theorem dX2_init_29 : decode cX2_init 29 = .ok (.newarray .int, 2) := by decide +kernel
theorem dX2_init_31 : decode cX2_init 31 = .ok (.putfield 25, 3) := by decide +kernel
theorem dX2_init_34 : decode cX2_init 34 = .ok (.aload_n 0, 1) := by decide +kernel
theorem dX2_init_35 : decode cX2_init 35 = .ok (.bipush 6, 2) := by decide +kernel
theorem dX2_init_37 : decode cX2_init 37 = .ok (.newarray .int, 2) := by decide +kernel
theorem dX2_init_39 : decode cX2_init 39 = .ok (.putfield 29, 3) := by decide +kernel
theorem dX2_init_42 : decode cX2_init 42 = .ok (.aload_n 0, 1) := by decide +kernel
theorem dX2_init_43 : decode cX2_init 43 = .ok (.iconst 0, 1) := by decide +kernel
theorem dX2_init_44 : decode cX2_init 44 = .ok (.putfield 32, 3) := by decide +kernel
theorem dX2_init_47 : decode cX2_init 47 = .ok (.aload_n 0, 1) := by decide +kernel
theorem dX2_init_48 : decode cX2_init 48 = .ok (.new 36, 3) := by decide +kernel
theorem dX2_init_51 : decode cX2_init 51 = .ok (.dup, 1) := by decide +kernel
theorem dX2_init_52 : decode cX2_init 52 = .ok (.invokespecial 38, 3) := by decide +kernel
theorem dX2_init_55 : decode cX2_init 55 = .ok (.putfield 39, 3) := by decide +kernel
theorem dX2_init_58 : decode cX2_init 58 = .ok (.aload_n 0, 1) := by decide +kernel
theorem dX2_init_59 : decode cX2_init 59 = .ok (.new 36, 3) := by decide +kernel
theorem dX2_init_62 : decode cX2_init 62 = .ok (.dup, 1) := by decide +kernel
theorem dX2_init_63 : decode cX2_init 63 = .ok (.invokespecial 38, 3) := by decide +kernel
theorem dX2_init_66 : decode cX2_init 66 = .ok (.putfield 43, 3) := by decide +kernel
theorem dX2_init_69 : decode cX2_init 69 = .ok (.aload_n 0, 1) := by decide +kernel
theorem dX2_init_70 : decode cX2_init 70 = .ok (.new 36, 3) := by decide +kernel
theorem dX2_init_73 : decode cX2_init 73 = .ok (.dup, 1) := by decide +kernel
theorem dX2_init_74 : decode cX2_init 74 = .ok (.invokespecial 38, 3) := by decide +kernel
theorem dX2_init_77 : decode cX2_init 77 = .ok (.putfield 46, 3) := by decide +kernel
theorem dX2_init_80 : decode cX2_init 80 = .ok (.aload_n 0, 1) := by decide +kernel
theorem dX2_init_81 : decode cX2_init 81 = .ok (.iconst 0, 1) := by decide +kernel
theorem dX2_init_82 : decode cX2_init 82 = .ok (.putfield 49, 3) := by decide +kernel
theorem dX2_init_85 : decode cX2_init 85 = .ok (.aload_n 0, 1) := by decide +kernel
theorem dX2_init_86 : decode cX2_init 86 = .ok (.iconst 0, 1) := by decide +kernel
theorem dX2_init_87 : decode cX2_init 87 = .ok (.putfield 52, 3) := by decide +kernel
theorem dX2_init_90 : decode cX2_init 90 = .ok (.aload_n 0, 1) := by decide +kernel
theorem dX2_init_91 : decode cX2_init 91 = .ok (.iconst 0, 1) := by decide +kernel
theorem dX2_init_92 : decode cX2_init 92 = .ok (.putfield 55, 3) := by decide +kernel
theorem dX2_init_95 : decode cX2_init 95 = .ok (.aload_n 0, 1) := by decide +kernel
theorem dX2_init_96 : decode cX2_init 96 = .ok (.iconst 0, 1) := by decide +kernel
theorem dX2_init_97 : decode cX2_init 97 = .ok (.putfield 58, 3) := by decide +kernel
theorem dX2_init_100 : decode cX2_init 100 = .ok (.aload_n 0, 1) := by decide +kernel
theorem dX2_init_101 : decode cX2_init 101 = .ok (.iconst 0, 1) := by decide +kernel
theorem dX2_init_102 : decode cX2_init 102 = .ok (.putfield 61, 3) := by decide +kernel
theorem dX2_init_105 : decode cX2_init 105 = .ok (.aload_n 0, 1) := by decide +kernel
theorem dX2_init_106 : decode cX2_init 106 = .ok (.iconst 0, 1) := by decide +kernel
theorem dX2_init_107 : decode cX2_init 107 = .ok (.putfield 64, 3) := by decide +kernel
theorem dX2_init_110 : decode cX2_init 110 = .ok (.aload_n 0, 1) := by decide +kernel
theorem dX2_init_111 : decode cX2_init 111 = .ok (.iconst 0, 1) := by decide +kernel
theorem dX2_init_112 : decode cX2_init 112 = .ok (.putfield 67, 3) := by decide +kernel
theorem dX2_init_115 : decode cX2_init 115 = .ok (.return_, 1) := by decide +kernel
set_option maxRecDepth 20000 in
theorem ggX2_start_X6_makeRuns : GoodIn wsX2_start wsX6_makeRuns := goodIn_r _ [16, 17, 18, 19, 20, 21, 22, 23, 24, 25, 26, 27, 28, 29, 30, 31, 32, 33, 15, 34, 35, 36, 37, 38, 39, 40, 41, 42, 43, 44, 45, 46, 47, 48, 49, 50, 51, 52, 53, 54, 55, 56, 57, 58, 59, 60, 61, 62, 63, 64, 65, 66, 67, 68, 69, 70, 71, 72, 73, 74, 75, 76, 77, 78, 79, 80, 81, 82, 83, 84, 85, 126, 127, 128, 129, 130, 119, 120, 121, 122, 123, 131, 132, 133, 124, 125, 134, 135, 136] (by decide +kernel) (by decide +kernel)
set_option maxRecDepth 20000 in
theorem gX2_start_X6_makeRuns : GoodIn wsX2_start (wsV RX2 70 RX6 yX6_makeRuns wsX6_makeRuns) := goodIn_app (goodIn_of _ (by decide +kernel)) ggX2_start_X6_makeRuns
set_option maxRecDepth 20000 in
theorem ggX2_start_X3_arrange : GoodIn wsX2_start wsX3_arrange := goodIn_r _ [90, 91, 92, 18, 19, 20, 93, 22, 23, 94, 95, 96, 97, 98, 99, 100, 89, 101, 126, 127, 128, 129, 130, 137, 138, 139, 140, 141, 142] (by decide +kernel) (by decide +kernel)
set_option maxRecDepth 20000 in
theorem gX2_start_X3_arrange : GoodIn wsX2_start (wsV RX2 77 RX3 yX3_arrange wsX3_arrange) := goodIn_app (goodIn_of _ (by decide +kernel)) ggX2_start_X3_arrange
set_option maxRecDepth 20000 in
theorem ggX2_start_X7_openRun : GoodIn wsX2_start wsX7_openRun := goodIn_r _ [57, 29, 58, 30, 59, 119, 120, 121, 122, 123] (by decide +kernel) (by decide +kernel)
set_option maxRecDepth 20000 in
theorem gX2_start_X7_openRun : GoodIn wsX2_start (wsV RX2 81 RX7 yX7_openRun wsX7_openRun) := goodIn_app (goodIn_of _ (by decide +kernel)) ggX2_start_X7_openRun
set_option maxRecDepth 20000 in
theorem ggX2_start_X7_empty : GoodIn wsX2_start wsX7_empty := goodIn_r _ [28, 29, 30, 119, 120, 121, 122, 123] (by decide +kernel) (by decide +kernel)
set_option maxRecDepth 20000 in
theorem gX2_start_X7_empty : GoodIn wsX2_start (wsV RX2 84 RX7 yX7_empty wsX7_empty) := goodIn_app (goodIn_of _ (by decide +kernel)) ggX2_start_X7_empty
theorem dX2_start_0 : decode cX2_start 0 = .ok (.aload_n 0, 1) := by decide +kernel
theorem dX2_start_1 : decode cX2_start 1 = .ok (.getfield 12, 3) := by decide +kernel
theorem dX2_start_4 : decode cX2_start 4 = .ok (.aload_n 1, 1) := by decide +kernel
theorem dX2_start_5 : decode cX2_start 5 = .ok (.aload_n 2, 1) := by decide +kernel
theorem dX2_start_6 : decode cX2_start 6 = .ok (.aload 4, 2) := by decide +kernel
theorem dX2_start_8 : decode cX2_start 8 = .ok (.aload_n 0, 1) := by decide +kernel
theorem dX2_start_9 : decode cX2_start 9 = .ok (.getfield 39, 3) := by decide +kernel
theorem dX2_start_12 : decode cX2_start 12 = .ok (.invokevirtual 70, 3) := by decide +kernel
theorem dX2_start_15 : decode cX2_start 15 = .ok (.aload_n 0, 1) := by decide +kernel
theorem dX2_start_16 : decode cX2_start 16 = .ok (.getfield 39, 3) := by decide +kernel
theorem dX2_start_19 : decode cX2_start 19 = .ok (.getfield 74, 3) := by decide +kernel
theorem dX2_start_22 : decode cX2_start 22 = .ok (.istore 5, 2) := by decide +kernel
theorem dX2_start_24 : decode cX2_start 24 = .ok (.aload_n 0, 1) := by decide +kernel
theorem dX2_start_25 : decode cX2_start 25 = .ok (.getfield 21, 3) := by decide +kernel
theorem dX2_start_28 : decode cX2_start 28 = .ok (.aload 4, 2) := by decide +kernel
theorem dX2_start_30 : decode cX2_start 30 = .ok (.iload 5, 2) := by decide +kernel
theorem dX2_start_32 : decode cX2_start 32 = .ok (.invokevirtual 77, 3) := by decide +kernel
theorem dX2_start_35 : decode cX2_start 35 = .ok (.istore 6, 2) := by decide +kernel
theorem dX2_start_37 : decode cX2_start 37 = .ok (.iload 5, 2) := by decide +kernel
theorem dX2_start_39 : decode cX2_start 39 = .ok (.istore 7, 2) := by decide +kernel
theorem dX2_start_41 : decode cX2_start 41 = .ok (.iload 7, 2) := by decide +kernel
theorem dX2_start_43 : decode cX2_start 43 = .ok (.iload 6, 2) := by decide +kernel
theorem dX2_start_45 : decode cX2_start 45 = .ok (.if_icmp .ge 16, 3) := by decide +kernel
theorem dX2_start_48 : decode cX2_start 48 = .ok (.aload_n 0, 1) := by decide +kernel
theorem dX2_start_49 : decode cX2_start 49 = .ok (.getfield 39, 3) := by decide +kernel
theorem dX2_start_52 : decode cX2_start 52 = .ok (.invokevirtual 81, 3) := by decide +kernel
theorem dX2_start_55 : decode cX2_start 55 = .ok (.iinc 7 1, 3) := by decide +kernel
theorem dX2_start_58 : decode cX2_start 58 = .ok (.goto (-17), 3) := by decide +kernel
theorem dX2_start_61 : decode cX2_start 61 = .ok (.aload_n 0, 1) := by decide +kernel
theorem dX2_start_62 : decode cX2_start 62 = .ok (.getfield 43, 3) := by decide +kernel
theorem dX2_start_65 : decode cX2_start 65 = .ok (.invokevirtual 84, 3) := by decide +kernel
theorem dX2_start_68 : decode cX2_start 68 = .ok (.aload_n 0, 1) := by decide +kernel
theorem dX2_start_69 : decode cX2_start 69 = .ok (.iload_n 3, 1) := by decide +kernel
theorem dX2_start_70 : decode cX2_start 70 = .ok (.putfield 49, 3) := by decide +kernel
theorem dX2_start_73 : decode cX2_start 73 = .ok (.aload_n 0, 1) := by decide +kernel
theorem dX2_start_74 : decode cX2_start 74 = .ok (.iconst 0, 1) := by decide +kernel
theorem dX2_start_75 : decode cX2_start 75 = .ok (.putfield 52, 3) := by decide +kernel
theorem dX2_start_78 : decode cX2_start 78 = .ok (.aload_n 0, 1) := by decide +kernel
theorem dX2_start_79 : decode cX2_start 79 = .ok (.iconst 0, 1) := by decide +kernel
theorem dX2_start_80 : decode cX2_start 80 = .ok (.putfield 55, 3) := by decide +kernel
theorem dX2_start_83 : decode cX2_start 83 = .ok (.aload_n 0, 1) := by decide +kernel
theorem dX2_start_84 : decode cX2_start 84 = .ok (.aload_n 2, 1) := by decide +kernel
theorem dX2_start_85 : decode cX2_start 85 = .ok (.getfield 87, 3) := by decide +kernel
theorem dX2_start_88 : decode cX2_start 88 = .ok (.putfield 58, 3) := by decide +kernel
theorem dX2_start_91 : decode cX2_start 91 = .ok (.aload_n 0, 1) := by decide +kernel
theorem dX2_start_92 : decode cX2_start 92 = .ok (.iconst 0, 1) := by decide +kernel
theorem dX2_start_93 : decode cX2_start 93 = .ok (.putfield 61, 3) := by decide +kernel
theorem dX2_start_96 : decode cX2_start 96 = .ok (.aload_n 0, 1) := by decide +kernel
theorem dX2_start_97 : decode cX2_start 97 = .ok (.iconst 0, 1) := by decide +kernel
theorem dX2_start_98 : decode cX2_start 98 = .ok (.putfield 64, 3) := by decide +kernel
theorem dX2_start_101 : decode cX2_start 101 = .ok (.aload_n 0, 1) := by decide +kernel
theorem dX2_start_102 : decode cX2_start 102 = .ok (.iconst 0, 1) := by decide +kernel
theorem dX2_start_103 : decode cX2_start 103 = .ok (.putfield 67, 3) := by decide +kernel
theorem dX2_start_106 : decode cX2_start 106 = .ok (.iload 5, 2) := by decide +kernel
theorem dX2_start_108 : decode cX2_start 108 = .ok (.ireturn, 1) := by decide +kernel
theorem dX2_isOver_0 : decode cX2_isOver 0 = .ok (.aload_n 0, 1) := by decide +kernel
theorem dX2_isOver_1 : decode cX2_isOver 1 = .ok (.getfield 39, 3) := by decide +kernel
theorem dX2_isOver_4 : decode cX2_isOver 4 = .ok (.getfield 74, 3) := by decide +kernel
theorem dX2_isOver_7 : decode cX2_isOver 7 = .ok (.iconst 1, 1) := by decide +kernel
theorem dX2_isOver_8 : decode cX2_isOver 8 = .ok (.if_icmp .gt 7, 3) := by decide +kernel
theorem dX2_isOver_11 : decode cX2_isOver 11 = .ok (.iconst 1, 1) := by decide +kernel
theorem dX2_isOver_12 : decode cX2_isOver 12 = .ok (.goto 4, 3) := by decide +kernel
theorem dX2_isOver_15 : decode cX2_isOver 15 = .ok (.iconst 0, 1) := by decide +kernel
theorem dX2_isOver_16 : decode cX2_isOver 16 = .ok (.ireturn, 1) := by decide +kernel
set_option maxRecDepth 20000 in
theorem ggX2_doMerge_X3_choose : GoodIn wsX2_doMerge wsX3_choose := goodIn_r _ [11, 12, 13, 14, 15, 16, 17, 18, 19, 20, 10, 21, 22, 23, 24, 25, 26, 27, 28, 29, 30, 31, 32, 121, 122, 123, 124, 125, 126] (by decide +kernel) (by decide +kernel)
set_option maxRecDepth 20000 in
theorem gX2_doMerge_X3_choose : GoodIn wsX2_doMerge (wsV RX2 95 RX3 yX3_choose wsX3_choose) := goodIn_app (goodIn_of _ (by decide +kernel)) ggX2_doMerge_X3_choose
set_option maxRecDepth 20000 in
theorem ggX2_doMerge_X2_mergeRuns : GoodIn wsX2_doMerge wsX2_mergeRuns := goodIn_r _ [37, 38, 3, 2, 39, 40, 1, 41, 42, 43, 10, 44, 12, 45, 46, 47, 48, 49, 50, 51, 52, 53, 54, 55, 56, 57, 58, 59, 60, 36, 61, 62, 63, 64, 65, 66, 67, 68, 69, 70, 101, 102, 103, 104, 105, 106, 107, 108, 109, 110, 111, 112, 113, 114, 115, 116, 117, 118, 119, 120, 121, 122, 123, 124, 125, 126] (by decide +kernel) (by decide +kernel)
set_option maxRecDepth 20000 in
theorem gX2_doMerge_X2_mergeRuns : GoodIn wsX2_doMerge (wsV RX2 99 RX2 yX2_mergeRuns wsX2_mergeRuns) := goodIn_app (goodIn_of _ (by decide +kernel)) ggX2_doMerge_X2_mergeRuns
set_option maxRecDepth 20000 in
theorem ggX2_doMerge_X2_endPass : GoodIn wsX2_doMerge wsX2_endPass := goodIn_r _ [74, 75, 2, 3, 1, 6, 76, 77, 78, 79, 48, 80, 50, 57, 81, 82, 83, 10, 84, 17, 85, 86, 87, 36, 88, 89, 90, 91, 92, 51, 56, 66, 93, 94, 95, 96, 41, 42, 43, 44, 12, 97, 98, 99, 100, 22, 13, 14, 15, 16, 32, 23, 101, 102, 103, 104, 105, 106, 107, 108, 109, 110, 111, 112, 113, 114, 115, 116, 117, 118, 119, 120, 121, 122, 123, 124, 125, 126] (by decide +kernel) (by decide +kernel)
set_option maxRecDepth 20000 in
theorem gX2_doMerge_X2_endPass : GoodIn wsX2_doMerge (wsV RX2 104 RX2 yX2_endPass wsX2_endPass) := goodIn_app (goodIn_of _ (by decide +kernel)) ggX2_doMerge_X2_endPass
theorem dX2_doMerge_0 : decode cX2_doMerge 0 = .ok (.aload_n 0, 1) := by decide +kernel
theorem dX2_doMerge_1 : decode cX2_doMerge 1 = .ok (.getfield 43, 3) := by decide +kernel
theorem dX2_doMerge_4 : decode cX2_doMerge 4 = .ok (.getfield 74, 3) := by decide +kernel
theorem dX2_doMerge_7 : decode cX2_doMerge 7 = .ok (.ifCond .ne 24, 3) := by decide +kernel
theorem dX2_doMerge_10 : decode cX2_doMerge 10 = .ok (.aload_n 0, 1) := by decide +kernel
theorem dX2_doMerge_11 : decode cX2_doMerge 11 = .ok (.getfield 21, 3) := by decide +kernel
theorem dX2_doMerge_14 : decode cX2_doMerge 14 = .ok (.aload_n 0, 1) := by decide +kernel
theorem dX2_doMerge_15 : decode cX2_doMerge 15 = .ok (.getfield 39, 3) := by decide +kernel
theorem dX2_doMerge_18 : decode cX2_doMerge 18 = .ok (.getfield 92, 3) := by decide +kernel
theorem dX2_doMerge_21 : decode cX2_doMerge 21 = .ok (.aload_n 0, 1) := by decide +kernel
theorem dX2_doMerge_22 : decode cX2_doMerge 22 = .ok (.getfield 39, 3) := by decide +kernel
theorem dX2_doMerge_25 : decode cX2_doMerge 25 = .ok (.getfield 74, 3) := by decide +kernel
theorem dX2_doMerge_28 : decode cX2_doMerge 28 = .ok (.invokevirtual 95, 3) := by decide +kernel
theorem dX2_doMerge_31 : decode cX2_doMerge 31 = .ok (.aload_n 0, 1) := by decide +kernel
theorem dX2_doMerge_32 : decode cX2_doMerge 32 = .ok (.aload_n 0, 1) := by decide +kernel
theorem dX2_doMerge_33 : decode cX2_doMerge 33 = .ok (.getfield 43, 3) := by decide +kernel
theorem dX2_doMerge_36 : decode cX2_doMerge 36 = .ok (.getfield 74, 3) := by decide +kernel
theorem dX2_doMerge_39 : decode cX2_doMerge 39 = .ok (.invokevirtual 99, 3) := by decide +kernel
theorem dX2_doMerge_42 : decode cX2_doMerge 42 = .ok (.istore_n 1, 1) := by decide +kernel
theorem dX2_doMerge_43 : decode cX2_doMerge 43 = .ok (.aload_n 0, 1) := by decide +kernel
theorem dX2_doMerge_44 : decode cX2_doMerge 44 = .ok (.dup, 1) := by decide +kernel
theorem dX2_doMerge_45 : decode cX2_doMerge 45 = .ok (.getfield 55, 3) := by decide +kernel
theorem dX2_doMerge_48 : decode cX2_doMerge 48 = .ok (.iconst 1, 1) := by decide +kernel
theorem dX2_doMerge_49 : decode cX2_doMerge 49 = .ok (.iadd, 1) := by decide +kernel
theorem dX2_doMerge_50 : decode cX2_doMerge 50 = .ok (.putfield 55, 3) := by decide +kernel
theorem dX2_doMerge_53 : decode cX2_doMerge 53 = .ok (.aload_n 0, 1) := by decide +kernel
theorem dX2_doMerge_54 : decode cX2_doMerge 54 = .ok (.dup, 1) := by decide +kernel
theorem dX2_doMerge_55 : decode cX2_doMerge 55 = .ok (.getfield 58, 3) := by decide +kernel
theorem dX2_doMerge_58 : decode cX2_doMerge 58 = .ok (.iload_n 1, 1) := by decide +kernel
theorem dX2_doMerge_59 : decode cX2_doMerge 59 = .ok (.iadd, 1) := by decide +kernel
theorem dX2_doMerge_60 : decode cX2_doMerge 60 = .ok (.putfield 58, 3) := by decide +kernel
theorem dX2_doMerge_63 : decode cX2_doMerge 63 = .ok (.aload_n 0, 1) := by decide +kernel
theorem dX2_doMerge_64 : decode cX2_doMerge 64 = .ok (.dup, 1) := by decide +kernel
theorem dX2_doMerge_65 : decode cX2_doMerge 65 = .ok (.getfield 61, 3) := by decide +kernel
theorem dX2_doMerge_68 : decode cX2_doMerge 68 = .ok (.iload_n 1, 1) := by decide +kernel
theorem dX2_doMerge_69 : decode cX2_doMerge 69 = .ok (.iadd, 1) := by decide +kernel
theorem dX2_doMerge_70 : decode cX2_doMerge 70 = .ok (.putfield 61, 3) := by decide +kernel
theorem dX2_doMerge_73 : decode cX2_doMerge 73 = .ok (.aload_n 0, 1) := by decide +kernel
theorem dX2_doMerge_74 : decode cX2_doMerge 74 = .ok (.getfield 43, 3) := by decide +kernel
theorem dX2_doMerge_77 : decode cX2_doMerge 77 = .ok (.getfield 74, 3) := by decide +kernel
theorem dX2_doMerge_80 : decode cX2_doMerge 80 = .ok (.aload_n 0, 1) := by decide +kernel
theorem dX2_doMerge_81 : decode cX2_doMerge 81 = .ok (.getfield 21, 3) := by decide +kernel
theorem dX2_doMerge_84 : decode cX2_doMerge 84 = .ok (.getfield 103, 3) := by decide +kernel
theorem dX2_doMerge_87 : decode cX2_doMerge 87 = .ok (.if_icmp .lt 7, 3) := by decide +kernel
theorem dX2_doMerge_90 : decode cX2_doMerge 90 = .ok (.aload_n 0, 1) := by decide +kernel
theorem dX2_doMerge_91 : decode cX2_doMerge 91 = .ok (.invokevirtual 104, 3) := by decide +kernel
theorem dX2_doMerge_94 : decode cX2_doMerge 94 = .ok (.return_, 1) := by decide +kernel
set_option maxRecDepth 20000 in
theorem ggX2_mergeRuns_X3_mergeOf : GoodIn wsX2_mergeRuns wsX3_mergeOf := goodIn_r _ [11, 12, 60, 61, 62, 63, 64, 65] (by decide +kernel) (by decide +kernel)
set_option maxRecDepth 20000 in
theorem gX2_mergeRuns_X3_mergeOf : GoodIn wsX2_mergeRuns (wsV RX2 107 RX3 yX3_mergeOf wsX3_mergeOf) := goodIn_app (goodIn_of _ (by decide +kernel)) ggX2_mergeRuns_X3_mergeOf
set_option maxRecDepth 20000 in
theorem ggX2_mergeRuns_X7_lengthOf : GoodIn wsX2_mergeRuns wsX7_lengthOf := goodIn_r _ [17, 18, 19, 55, 56, 57, 58, 59] (by decide +kernel) (by decide +kernel)
set_option maxRecDepth 20000 in
theorem gX2_mergeRuns_X7_lengthOf : GoodIn wsX2_mergeRuns (wsV RX2 110 RX7 yX7_lengthOf wsX7_lengthOf) := goodIn_app (goodIn_of _ (by decide +kernel)) ggX2_mergeRuns_X7_lengthOf
set_option maxRecDepth 20000 in
theorem ggX2_mergeRuns_X7_openRun : GoodIn wsX2_mergeRuns wsX7_openRun := goodIn_r _ [23, 18, 24, 25, 19, 55, 56, 57, 58, 59] (by decide +kernel) (by decide +kernel)
set_option maxRecDepth 20000 in
theorem gX2_mergeRuns_X7_openRun : GoodIn wsX2_mergeRuns (wsV RX2 81 RX7 yX7_openRun wsX7_openRun) := goodIn_app (goodIn_of _ (by decide +kernel)) ggX2_mergeRuns_X7_openRun
set_option maxRecDepth 20000 in
theorem ggX2_mergeRuns_X2_inputWithLeastRank : GoodIn wsX2_mergeRuns wsX2_inputWithLeastRank := goodIn_r _ [30, 1, 5, 2, 4, 13, 14, 15, 16, 17, 18, 19, 31, 32, 33, 34, 24, 35, 40, 41, 42, 43, 44, 45, 46, 47, 48, 49, 50, 51, 52, 53, 54, 55, 56, 57, 58, 59] (by decide +kernel) (by decide +kernel)
set_option maxRecDepth 20000 in
theorem gX2_mergeRuns_X2_inputWithLeastRank : GoodIn wsX2_mergeRuns (wsV RX2 113 RX2 yX2_inputWithLeastRank wsX2_inputWithLeastRank) := goodIn_app (goodIn_of _ (by decide +kernel)) ggX2_mergeRuns_X2_inputWithLeastRank
set_option maxRecDepth 20000 in
theorem ggX2_mergeRuns_X7_rankAt : GoodIn wsX2_mergeRuns wsX7_rankAt := goodIn_r _ [34, 18, 19, 24, 35, 55, 56, 57, 58, 59] (by decide +kernel) (by decide +kernel)
set_option maxRecDepth 20000 in
theorem gX2_mergeRuns_X7_rankAt : GoodIn wsX2_mergeRuns (wsV RX2 117 RX7 yX7_rankAt wsX7_rankAt) := goodIn_app (goodIn_of _ (by decide +kernel)) ggX2_mergeRuns_X7_rankAt
set_option maxRecDepth 20000 in
theorem ggX2_mergeRuns_X7_add : GoodIn wsX2_mergeRuns wsX7_add := goodIn_r _ [39, 18, 25, 35, 19, 55, 56, 57, 58, 59] (by decide +kernel) (by decide +kernel)
set_option maxRecDepth 20000 in
theorem gX2_mergeRuns_X7_add : GoodIn wsX2_mergeRuns (wsV RX2 121 RX7 yX7_add wsX7_add) := goodIn_app (goodIn_of _ (by decide +kernel)) ggX2_mergeRuns_X7_add
theorem dX2_mergeRuns_0 : decode cX2_mergeRuns 0 = .ok (.aload_n 0, 1) := by decide +kernel
theorem dX2_mergeRuns_1 : decode cX2_mergeRuns 1 = .ok (.iconst 0, 1) := by decide +kernel
theorem dX2_mergeRuns_2 : decode cX2_mergeRuns 2 = .ok (.putfield 32, 3) := by decide +kernel
theorem dX2_mergeRuns_5 : decode cX2_mergeRuns 5 = .ok (.iconst 0, 1) := by decide +kernel
theorem dX2_mergeRuns_6 : decode cX2_mergeRuns 6 = .ok (.istore_n 2, 1) := by decide +kernel
theorem dX2_mergeRuns_7 : decode cX2_mergeRuns 7 = .ok (.iconst 0, 1) := by decide +kernel
theorem dX2_mergeRuns_8 : decode cX2_mergeRuns 8 = .ok (.istore_n 3, 1) := by decide +kernel
theorem dX2_mergeRuns_9 : decode cX2_mergeRuns 9 = .ok (.iload_n 3, 1) := by decide +kernel
theorem dX2_mergeRuns_10 : decode cX2_mergeRuns 10 = .ok (.aload_n 0, 1) := by decide +kernel
theorem dX2_mergeRuns_11 : decode cX2_mergeRuns 11 = .ok (.getfield 39, 3) := by decide +kernel
theorem dX2_mergeRuns_14 : decode cX2_mergeRuns 14 = .ok (.getfield 74, 3) := by decide +kernel
theorem dX2_mergeRuns_17 : decode cX2_mergeRuns 17 = .ok (.if_icmp .ge 71, 3) := by decide +kernel
theorem dX2_mergeRuns_20 : decode cX2_mergeRuns 20 = .ok (.aload_n 0, 1) := by decide +kernel
theorem dX2_mergeRuns_21 : decode cX2_mergeRuns 21 = .ok (.getfield 21, 3) := by decide +kernel
theorem dX2_mergeRuns_24 : decode cX2_mergeRuns 24 = .ok (.iload_n 3, 1) := by decide +kernel
theorem dX2_mergeRuns_25 : decode cX2_mergeRuns 25 = .ok (.invokevirtual 107, 3) := by decide +kernel
theorem dX2_mergeRuns_28 : decode cX2_mergeRuns 28 = .ok (.iload_n 1, 1) := by decide +kernel
theorem dX2_mergeRuns_29 : decode cX2_mergeRuns 29 = .ok (.if_icmp .ne 53, 3) := by decide +kernel
theorem dX2_mergeRuns_32 : decode cX2_mergeRuns 32 = .ok (.aload_n 0, 1) := by decide +kernel
theorem dX2_mergeRuns_33 : decode cX2_mergeRuns 33 = .ok (.getfield 32, 3) := by decide +kernel
theorem dX2_mergeRuns_36 : decode cX2_mergeRuns 36 = .ok (.bipush 6, 2) := by decide +kernel
theorem dX2_mergeRuns_38 : decode cX2_mergeRuns 38 = .ok (.if_icmp .ge 44, 3) := by decide +kernel
theorem dX2_mergeRuns_41 : decode cX2_mergeRuns 41 = .ok (.aload_n 0, 1) := by decide +kernel
theorem dX2_mergeRuns_42 : decode cX2_mergeRuns 42 = .ok (.getfield 25, 3) := by decide +kernel
theorem dX2_mergeRuns_45 : decode cX2_mergeRuns 45 = .ok (.aload_n 0, 1) := by decide +kernel
theorem dX2_mergeRuns_46 : decode cX2_mergeRuns 46 = .ok (.getfield 32, 3) := by decide +kernel
theorem dX2_mergeRuns_49 : decode cX2_mergeRuns 49 = .ok (.iload_n 3, 1) := by decide +kernel
theorem dX2_mergeRuns_50 : decode cX2_mergeRuns 50 = .ok (.iastore, 1) := by decide +kernel
theorem dX2_mergeRuns_51 : decode cX2_mergeRuns 51 = .ok (.aload_n 0, 1) := by decide +kernel
theorem dX2_mergeRuns_52 : decode cX2_mergeRuns 52 = .ok (.getfield 29, 3) := by decide +kernel
theorem dX2_mergeRuns_55 : decode cX2_mergeRuns 55 = .ok (.aload_n 0, 1) := by decide +kernel
theorem dX2_mergeRuns_56 : decode cX2_mergeRuns 56 = .ok (.getfield 32, 3) := by decide +kernel
theorem dX2_mergeRuns_59 : decode cX2_mergeRuns 59 = .ok (.iconst 0, 1) := by decide +kernel
theorem dX2_mergeRuns_60 : decode cX2_mergeRuns 60 = .ok (.iastore, 1) := by decide +kernel
theorem dX2_mergeRuns_61 : decode cX2_mergeRuns 61 = .ok (.aload_n 0, 1) := by decide +kernel
theorem dX2_mergeRuns_62 : decode cX2_mergeRuns 62 = .ok (.dup, 1) := by decide +kernel
theorem dX2_mergeRuns_63 : decode cX2_mergeRuns 63 = .ok (.getfield 32, 3) := by decide +kernel
theorem dX2_mergeRuns_66 : decode cX2_mergeRuns 66 = .ok (.iconst 1, 1) := by decide +kernel
theorem dX2_mergeRuns_67 : decode cX2_mergeRuns 67 = .ok (.iadd, 1) := by decide +kernel
theorem dX2_mergeRuns_68 : decode cX2_mergeRuns 68 = .ok (.putfield 32, 3) := by decide +kernel
theorem dX2_mergeRuns_71 : decode cX2_mergeRuns 71 = .ok (.iload_n 2, 1) := by decide +kernel
theorem dX2_mergeRuns_72 : decode cX2_mergeRuns 72 = .ok (.aload_n 0, 1) := by decide +kernel
theorem dX2_mergeRuns_73 : decode cX2_mergeRuns 73 = .ok (.getfield 39, 3) := by decide +kernel
theorem dX2_mergeRuns_76 : decode cX2_mergeRuns 76 = .ok (.iload_n 3, 1) := by decide +kernel
theorem dX2_mergeRuns_77 : decode cX2_mergeRuns 77 = .ok (.invokevirtual 110, 3) := by decide +kernel
theorem dX2_mergeRuns_80 : decode cX2_mergeRuns 80 = .ok (.iadd, 1) := by decide +kernel
theorem dX2_mergeRuns_81 : decode cX2_mergeRuns 81 = .ok (.istore_n 2, 1) := by decide +kernel
theorem dX2_mergeRuns_82 : decode cX2_mergeRuns 82 = .ok (.iinc 3 1, 3) := by decide +kernel
theorem dX2_mergeRuns_85 : decode cX2_mergeRuns 85 = .ok (.goto (-76), 3) := by decide +kernel
theorem dX2_mergeRuns_88 : decode cX2_mergeRuns 88 = .ok (.aload_n 0, 1) := by decide +kernel
theorem dX2_mergeRuns_89 : decode cX2_mergeRuns 89 = .ok (.getfield 43, 3) := by decide +kernel
theorem dX2_mergeRuns_92 : decode cX2_mergeRuns 92 = .ok (.invokevirtual 81, 3) := by decide +kernel
theorem dX2_mergeRuns_95 : decode cX2_mergeRuns 95 = .ok (.iconst 0, 1) := by decide +kernel
theorem dX2_mergeRuns_96 : decode cX2_mergeRuns 96 = .ok (.istore_n 3, 1) := by decide +kernel
theorem dX2_mergeRuns_97 : decode cX2_mergeRuns 97 = .ok (.iload_n 3, 1) := by decide +kernel
theorem dX2_mergeRuns_98 : decode cX2_mergeRuns 98 = .ok (.iload_n 2, 1) := by decide +kernel
theorem dX2_mergeRuns_99 : decode cX2_mergeRuns 99 = .ok (.if_icmp .ge 66, 3) := by decide +kernel
theorem dX2_mergeRuns_102 : decode cX2_mergeRuns 102 = .ok (.aload_n 0, 1) := by decide +kernel
theorem dX2_mergeRuns_103 : decode cX2_mergeRuns 103 = .ok (.invokevirtual 113, 3) := by decide +kernel
theorem dX2_mergeRuns_106 : decode cX2_mergeRuns 106 = .ok (.istore 4, 2) := by decide +kernel
theorem dX2_mergeRuns_108 : decode cX2_mergeRuns 108 = .ok (.iload 4, 2) := by decide +kernel
theorem dX2_mergeRuns_110 : decode cX2_mergeRuns 110 = .ok (.ifCond .lt 49, 3) := by decide +kernel
theorem dX2_mergeRuns_113 : decode cX2_mergeRuns 113 = .ok (.iload 4, 2) := by decide +kernel
theorem dX2_mergeRuns_115 : decode cX2_mergeRuns 115 = .ok (.bipush 6, 2) := by decide +kernel
theorem dX2_mergeRuns_117 : decode cX2_mergeRuns 117 = .ok (.if_icmp .ge 42, 3) := by decide +kernel
theorem dX2_mergeRuns_120 : decode cX2_mergeRuns 120 = .ok (.aload_n 0, 1) := by decide +kernel
theorem dX2_mergeRuns_121 : decode cX2_mergeRuns 121 = .ok (.getfield 43, 3) := by decide +kernel
theorem dX2_mergeRuns_124 : decode cX2_mergeRuns 124 = .ok (.aload_n 0, 1) := by decide +kernel
theorem dX2_mergeRuns_125 : decode cX2_mergeRuns 125 = .ok (.getfield 39, 3) := by decide +kernel
theorem dX2_mergeRuns_128 : decode cX2_mergeRuns 128 = .ok (.aload_n 0, 1) := by decide +kernel
theorem dX2_mergeRuns_129 : decode cX2_mergeRuns 129 = .ok (.getfield 25, 3) := by decide +kernel
theorem dX2_mergeRuns_132 : decode cX2_mergeRuns 132 = .ok (.iload 4, 2) := by decide +kernel
theorem dX2_mergeRuns_134 : decode cX2_mergeRuns 134 = .ok (.iaload, 1) := by decide +kernel
theorem dX2_mergeRuns_135 : decode cX2_mergeRuns 135 = .ok (.aload_n 0, 1) := by decide +kernel
theorem dX2_mergeRuns_136 : decode cX2_mergeRuns 136 = .ok (.getfield 29, 3) := by decide +kernel
theorem dX2_mergeRuns_139 : decode cX2_mergeRuns 139 = .ok (.iload 4, 2) := by decide +kernel
theorem dX2_mergeRuns_141 : decode cX2_mergeRuns 141 = .ok (.iaload, 1) := by decide +kernel
theorem dX2_mergeRuns_142 : decode cX2_mergeRuns 142 = .ok (.invokevirtual 117, 3) := by decide +kernel
theorem dX2_mergeRuns_145 : decode cX2_mergeRuns 145 = .ok (.invokevirtual 121, 3) := by decide +kernel
theorem dX2_mergeRuns_148 : decode cX2_mergeRuns 148 = .ok (.aload_n 0, 1) := by decide +kernel
theorem dX2_mergeRuns_149 : decode cX2_mergeRuns 149 = .ok (.getfield 29, 3) := by decide +kernel
theorem dX2_mergeRuns_152 : decode cX2_mergeRuns 152 = .ok (.iload 4, 2) := by decide +kernel
theorem dX2_mergeRuns_154 : decode cX2_mergeRuns 154 = .ok (.dup2, 1) := by decide +kernel
theorem dX2_mergeRuns_155 : decode cX2_mergeRuns 155 = .ok (.iaload, 1) := by decide +kernel
theorem dX2_mergeRuns_156 : decode cX2_mergeRuns 156 = .ok (.iconst 1, 1) := by decide +kernel
theorem dX2_mergeRuns_157 : decode cX2_mergeRuns 157 = .ok (.iadd, 1) := by decide +kernel
theorem dX2_mergeRuns_158 : decode cX2_mergeRuns 158 = .ok (.iastore, 1) := by decide +kernel
theorem dX2_mergeRuns_159 : decode cX2_mergeRuns 159 = .ok (.iinc 3 1, 3) := by decide +kernel
theorem dX2_mergeRuns_162 : decode cX2_mergeRuns 162 = .ok (.goto (-65), 3) := by decide +kernel
theorem dX2_mergeRuns_165 : decode cX2_mergeRuns 165 = .ok (.iload_n 2, 1) := by decide +kernel
theorem dX2_mergeRuns_166 : decode cX2_mergeRuns 166 = .ok (.ireturn, 1) := by decide +kernel
set_option maxRecDepth 20000 in
theorem ggX2_inputWithLeastRank_X7_lengthOf : GoodIn wsX2_inputWithLeastRank wsX7_lengthOf := goodIn_r _ [9, 10, 11, 33, 34, 35, 36, 37] (by decide +kernel) (by decide +kernel)
set_option maxRecDepth 20000 in
theorem gX2_inputWithLeastRank_X7_lengthOf : GoodIn wsX2_inputWithLeastRank (wsV RX2 110 RX7 yX7_lengthOf wsX7_lengthOf) := goodIn_app (goodIn_of _ (by decide +kernel)) ggX2_inputWithLeastRank_X7_lengthOf
set_option maxRecDepth 20000 in
theorem ggX2_inputWithLeastRank_X7_rankAt : GoodIn wsX2_inputWithLeastRank wsX7_rankAt := goodIn_r _ [15, 10, 11, 16, 17, 33, 34, 35, 36, 37] (by decide +kernel) (by decide +kernel)
set_option maxRecDepth 20000 in
theorem gX2_inputWithLeastRank_X7_rankAt : GoodIn wsX2_inputWithLeastRank (wsV RX2 117 RX7 yX7_rankAt wsX7_rankAt) := goodIn_app (goodIn_of _ (by decide +kernel)) ggX2_inputWithLeastRank_X7_rankAt
theorem dX2_inputWithLeastRank_0 : decode cX2_inputWithLeastRank 0 = .ok (.iconst (-1), 1) := by decide +kernel
theorem dX2_inputWithLeastRank_1 : decode cX2_inputWithLeastRank 1 = .ok (.istore_n 1, 1) := by decide +kernel
theorem dX2_inputWithLeastRank_2 : decode cX2_inputWithLeastRank 2 = .ok (.iconst 0, 1) := by decide +kernel
theorem dX2_inputWithLeastRank_3 : decode cX2_inputWithLeastRank 3 = .ok (.istore_n 2, 1) := by decide +kernel
theorem dX2_inputWithLeastRank_4 : decode cX2_inputWithLeastRank 4 = .ok (.iconst 0, 1) := by decide +kernel
theorem dX2_inputWithLeastRank_5 : decode cX2_inputWithLeastRank 5 = .ok (.istore_n 3, 1) := by decide +kernel
theorem dX2_inputWithLeastRank_6 : decode cX2_inputWithLeastRank 6 = .ok (.iload_n 3, 1) := by decide +kernel
theorem dX2_inputWithLeastRank_7 : decode cX2_inputWithLeastRank 7 = .ok (.aload_n 0, 1) := by decide +kernel
theorem dX2_inputWithLeastRank_8 : decode cX2_inputWithLeastRank 8 = .ok (.getfield 32, 3) := by decide +kernel
theorem dX2_inputWithLeastRank_11 : decode cX2_inputWithLeastRank 11 = .ok (.if_icmp .ge 74, 3) := by decide +kernel
theorem dX2_inputWithLeastRank_14 : decode cX2_inputWithLeastRank 14 = .ok (.iload_n 3, 1) := by decide +kernel
theorem dX2_inputWithLeastRank_15 : decode cX2_inputWithLeastRank 15 = .ok (.bipush 6, 2) := by decide +kernel
theorem dX2_inputWithLeastRank_17 : decode cX2_inputWithLeastRank 17 = .ok (.if_icmp .ge 68, 3) := by decide +kernel
theorem dX2_inputWithLeastRank_20 : decode cX2_inputWithLeastRank 20 = .ok (.aload_n 0, 1) := by decide +kernel
theorem dX2_inputWithLeastRank_21 : decode cX2_inputWithLeastRank 21 = .ok (.getfield 29, 3) := by decide +kernel
theorem dX2_inputWithLeastRank_24 : decode cX2_inputWithLeastRank 24 = .ok (.iload_n 3, 1) := by decide +kernel
theorem dX2_inputWithLeastRank_25 : decode cX2_inputWithLeastRank 25 = .ok (.iaload, 1) := by decide +kernel
theorem dX2_inputWithLeastRank_26 : decode cX2_inputWithLeastRank 26 = .ok (.aload_n 0, 1) := by decide +kernel
theorem dX2_inputWithLeastRank_27 : decode cX2_inputWithLeastRank 27 = .ok (.getfield 39, 3) := by decide +kernel
theorem dX2_inputWithLeastRank_30 : decode cX2_inputWithLeastRank 30 = .ok (.aload_n 0, 1) := by decide +kernel
theorem dX2_inputWithLeastRank_31 : decode cX2_inputWithLeastRank 31 = .ok (.getfield 25, 3) := by decide +kernel
theorem dX2_inputWithLeastRank_34 : decode cX2_inputWithLeastRank 34 = .ok (.iload_n 3, 1) := by decide +kernel
theorem dX2_inputWithLeastRank_35 : decode cX2_inputWithLeastRank 35 = .ok (.iaload, 1) := by decide +kernel
theorem dX2_inputWithLeastRank_36 : decode cX2_inputWithLeastRank 36 = .ok (.invokevirtual 110, 3) := by decide +kernel
theorem dX2_inputWithLeastRank_39 : decode cX2_inputWithLeastRank 39 = .ok (.if_icmp .ge 40, 3) := by decide +kernel
theorem dX2_inputWithLeastRank_42 : decode cX2_inputWithLeastRank 42 = .ok (.aload_n 0, 1) := by decide +kernel
theorem dX2_inputWithLeastRank_43 : decode cX2_inputWithLeastRank 43 = .ok (.getfield 39, 3) := by decide +kernel
theorem dX2_inputWithLeastRank_46 : decode cX2_inputWithLeastRank 46 = .ok (.aload_n 0, 1) := by decide +kernel
theorem dX2_inputWithLeastRank_47 : decode cX2_inputWithLeastRank 47 = .ok (.getfield 25, 3) := by decide +kernel
theorem dX2_inputWithLeastRank_50 : decode cX2_inputWithLeastRank 50 = .ok (.iload_n 3, 1) := by decide +kernel
theorem dX2_inputWithLeastRank_51 : decode cX2_inputWithLeastRank 51 = .ok (.iaload, 1) := by decide +kernel
theorem dX2_inputWithLeastRank_52 : decode cX2_inputWithLeastRank 52 = .ok (.aload_n 0, 1) := by decide +kernel
theorem dX2_inputWithLeastRank_53 : decode cX2_inputWithLeastRank 53 = .ok (.getfield 29, 3) := by decide +kernel
theorem dX2_inputWithLeastRank_56 : decode cX2_inputWithLeastRank 56 = .ok (.iload_n 3, 1) := by decide +kernel
theorem dX2_inputWithLeastRank_57 : decode cX2_inputWithLeastRank 57 = .ok (.iaload, 1) := by decide +kernel
theorem dX2_inputWithLeastRank_58 : decode cX2_inputWithLeastRank 58 = .ok (.invokevirtual 117, 3) := by decide +kernel
theorem dX2_inputWithLeastRank_61 : decode cX2_inputWithLeastRank 61 = .ok (.istore 4, 2) := by decide +kernel
theorem dX2_inputWithLeastRank_63 : decode cX2_inputWithLeastRank 63 = .ok (.iload_n 1, 1) := by decide +kernel
theorem dX2_inputWithLeastRank_64 : decode cX2_inputWithLeastRank 64 = .ok (.iconst (-1), 1) := by decide +kernel
theorem dX2_inputWithLeastRank_65 : decode cX2_inputWithLeastRank 65 = .ok (.if_icmp .eq 9, 3) := by decide +kernel
theorem dX2_inputWithLeastRank_68 : decode cX2_inputWithLeastRank 68 = .ok (.iload 4, 2) := by decide +kernel
theorem dX2_inputWithLeastRank_70 : decode cX2_inputWithLeastRank 70 = .ok (.iload_n 2, 1) := by decide +kernel
theorem dX2_inputWithLeastRank_71 : decode cX2_inputWithLeastRank 71 = .ok (.if_icmp .ge 8, 3) := by decide +kernel
theorem dX2_inputWithLeastRank_74 : decode cX2_inputWithLeastRank 74 = .ok (.iload_n 3, 1) := by decide +kernel
theorem dX2_inputWithLeastRank_75 : decode cX2_inputWithLeastRank 75 = .ok (.istore_n 1, 1) := by decide +kernel
theorem dX2_inputWithLeastRank_76 : decode cX2_inputWithLeastRank 76 = .ok (.iload 4, 2) := by decide +kernel
theorem dX2_inputWithLeastRank_78 : decode cX2_inputWithLeastRank 78 = .ok (.istore_n 2, 1) := by decide +kernel
theorem dX2_inputWithLeastRank_79 : decode cX2_inputWithLeastRank 79 = .ok (.iinc 3 1, 3) := by decide +kernel
theorem dX2_inputWithLeastRank_82 : decode cX2_inputWithLeastRank 82 = .ok (.goto (-76), 3) := by decide +kernel
theorem dX2_inputWithLeastRank_85 : decode cX2_inputWithLeastRank 85 = .ok (.iload_n 1, 1) := by decide +kernel
theorem dX2_inputWithLeastRank_86 : decode cX2_inputWithLeastRank 86 = .ok (.ireturn, 1) := by decide +kernel
set_option maxRecDepth 20000 in
theorem ggX2_endPass_X7_empty : GoodIn wsX2_endPass wsX7_empty := goodIn_r _ [11, 12, 13, 67, 68, 69, 70, 71] (by decide +kernel) (by decide +kernel)
set_option maxRecDepth 20000 in
theorem gX2_endPass_X7_empty : GoodIn wsX2_endPass (wsV RX2 84 RX7 yX7_empty wsX7_empty) := goodIn_app (goodIn_of _ (by decide +kernel)) ggX2_endPass_X7_empty
set_option maxRecDepth 20000 in
theorem ggX2_endPass_X3_putsNewRunsFirst : GoodIn wsX2_endPass wsX3_putsNewRunsFirst := goodIn_r _ [18, 19, 72, 73, 74, 75, 76, 77] (by decide +kernel) (by decide +kernel)
set_option maxRecDepth 20000 in
theorem gX2_endPass_X3_putsNewRunsFirst : GoodIn wsX2_endPass (wsV RX2 125 RX3 yX3_putsNewRunsFirst wsX3_putsNewRunsFirst) := goodIn_app (goodIn_of _ (by decide +kernel)) ggX2_endPass_X3_putsNewRunsFirst
set_option maxRecDepth 20000 in
theorem ggX2_endPass_X2_keepMade : GoodIn wsX2_endPass wsX2_keepMade := goodIn_r _ [24, 4, 1, 25, 26, 27, 10, 28, 12, 29, 30, 13, 31, 52, 53, 54, 55, 56, 57, 58, 59, 60, 61, 62, 63, 64, 65, 66, 67, 68, 69, 70, 71] (by decide +kernel) (by decide +kernel)
set_option maxRecDepth 20000 in
theorem gX2_endPass_X2_keepMade : GoodIn wsX2_endPass (wsV RX2 129 RX2 yX2_keepMade wsX2_keepMade) := goodIn_app (goodIn_of _ (by decide +kernel)) ggX2_endPass_X2_keepMade
set_option maxRecDepth 20000 in
theorem ggX2_endPass_X2_keepOthers : GoodIn wsX2_endPass wsX2_keepOthers := goodIn_r _ [35, 3, 2, 1, 36, 37, 38, 17, 39, 40, 25, 26, 27, 10, 28, 12, 29, 30, 13, 31, 52, 53, 54, 55, 56, 57, 58, 59, 60, 61, 62, 63, 64, 65, 66, 67, 68, 69, 70, 71, 72, 73, 74, 75, 76, 77] (by decide +kernel) (by decide +kernel)
set_option maxRecDepth 20000 in
theorem gX2_endPass_X2_keepOthers : GoodIn wsX2_endPass (wsV RX2 132 RX2 yX2_keepOthers wsX2_keepOthers) := goodIn_app (goodIn_of _ (by decide +kernel)) ggX2_endPass_X2_keepOthers
set_option maxRecDepth 20000 in
theorem ggX2_endPass_X3_close : GoodIn wsX2_endPass wsX3_close := goodIn_r _ [44, 45, 46, 47, 48, 49, 50, 51, 72, 73, 74, 75, 76, 77] (by decide +kernel) (by decide +kernel)
set_option maxRecDepth 20000 in
theorem gX2_endPass_X3_close : GoodIn wsX2_endPass (wsV RX2 135 RX3 yX3_close wsX3_close) := goodIn_app (goodIn_of _ (by decide +kernel)) ggX2_endPass_X3_close
theorem dX2_endPass_0 : decode cX2_endPass 0 = .ok (.aload_n 0, 1) := by decide +kernel
theorem dX2_endPass_1 : decode cX2_endPass 1 = .ok (.getfield 46, 3) := by decide +kernel
theorem dX2_endPass_4 : decode cX2_endPass 4 = .ok (.invokevirtual 84, 3) := by decide +kernel
theorem dX2_endPass_7 : decode cX2_endPass 7 = .ok (.aload_n 0, 1) := by decide +kernel
theorem dX2_endPass_8 : decode cX2_endPass 8 = .ok (.getfield 21, 3) := by decide +kernel
theorem dX2_endPass_11 : decode cX2_endPass 11 = .ok (.invokevirtual 125, 3) := by decide +kernel
theorem dX2_endPass_14 : decode cX2_endPass 14 = .ok (.ifCond .eq 14, 3) := by decide +kernel
theorem dX2_endPass_17 : decode cX2_endPass 17 = .ok (.aload_n 0, 1) := by decide +kernel
theorem dX2_endPass_18 : decode cX2_endPass 18 = .ok (.invokevirtual 129, 3) := by decide +kernel
theorem dX2_endPass_21 : decode cX2_endPass 21 = .ok (.aload_n 0, 1) := by decide +kernel
theorem dX2_endPass_22 : decode cX2_endPass 22 = .ok (.invokevirtual 132, 3) := by decide +kernel
theorem dX2_endPass_25 : decode cX2_endPass 25 = .ok (.goto 11, 3) := by decide +kernel
theorem dX2_endPass_28 : decode cX2_endPass 28 = .ok (.aload_n 0, 1) := by decide +kernel
theorem dX2_endPass_29 : decode cX2_endPass 29 = .ok (.invokevirtual 132, 3) := by decide +kernel
theorem dX2_endPass_32 : decode cX2_endPass 32 = .ok (.aload_n 0, 1) := by decide +kernel
theorem dX2_endPass_33 : decode cX2_endPass 33 = .ok (.invokevirtual 129, 3) := by decide +kernel
theorem dX2_endPass_36 : decode cX2_endPass 36 = .ok (.aload_n 0, 1) := by decide +kernel
theorem dX2_endPass_37 : decode cX2_endPass 37 = .ok (.getfield 39, 3) := by decide +kernel
theorem dX2_endPass_40 : decode cX2_endPass 40 = .ok (.astore_n 1, 1) := by decide +kernel
theorem dX2_endPass_41 : decode cX2_endPass 41 = .ok (.aload_n 0, 1) := by decide +kernel
theorem dX2_endPass_42 : decode cX2_endPass 42 = .ok (.aload_n 0, 1) := by decide +kernel
theorem dX2_endPass_43 : decode cX2_endPass 43 = .ok (.getfield 46, 3) := by decide +kernel
theorem dX2_endPass_46 : decode cX2_endPass 46 = .ok (.putfield 39, 3) := by decide +kernel
theorem dX2_endPass_49 : decode cX2_endPass 49 = .ok (.aload_n 0, 1) := by decide +kernel
theorem dX2_endPass_50 : decode cX2_endPass 50 = .ok (.aload_n 1, 1) := by decide +kernel
theorem dX2_endPass_51 : decode cX2_endPass 51 = .ok (.putfield 46, 3) := by decide +kernel
theorem dX2_endPass_54 : decode cX2_endPass 54 = .ok (.aload_n 0, 1) := by decide +kernel
theorem dX2_endPass_55 : decode cX2_endPass 55 = .ok (.getfield 43, 3) := by decide +kernel
theorem dX2_endPass_58 : decode cX2_endPass 58 = .ok (.invokevirtual 84, 3) := by decide +kernel
theorem dX2_endPass_61 : decode cX2_endPass 61 = .ok (.aload_n 0, 1) := by decide +kernel
theorem dX2_endPass_62 : decode cX2_endPass 62 = .ok (.iconst 0, 1) := by decide +kernel
theorem dX2_endPass_63 : decode cX2_endPass 63 = .ok (.putfield 61, 3) := by decide +kernel
theorem dX2_endPass_66 : decode cX2_endPass 66 = .ok (.aload_n 0, 1) := by decide +kernel
theorem dX2_endPass_67 : decode cX2_endPass 67 = .ok (.dup, 1) := by decide +kernel
theorem dX2_endPass_68 : decode cX2_endPass 68 = .ok (.getfield 52, 3) := by decide +kernel
theorem dX2_endPass_71 : decode cX2_endPass 71 = .ok (.iconst 1, 1) := by decide +kernel
theorem dX2_endPass_72 : decode cX2_endPass 72 = .ok (.iadd, 1) := by decide +kernel
theorem dX2_endPass_73 : decode cX2_endPass 73 = .ok (.putfield 52, 3) := by decide +kernel
theorem dX2_endPass_76 : decode cX2_endPass 76 = .ok (.aload_n 0, 1) := by decide +kernel
theorem dX2_endPass_77 : decode cX2_endPass 77 = .ok (.getfield 21, 3) := by decide +kernel
theorem dX2_endPass_80 : decode cX2_endPass 80 = .ok (.invokevirtual 135, 3) := by decide +kernel
theorem dX2_endPass_83 : decode cX2_endPass 83 = .ok (.return_, 1) := by decide +kernel
set_option maxRecDepth 20000 in
theorem ggX2_keepMade_X7_addRunOf : GoodIn wsX2_keepMade wsX7_addRunOf := goodIn_r _ [7, 8, 9, 10, 11, 12, 28, 29, 30, 31, 32] (by decide +kernel) (by decide +kernel)
set_option maxRecDepth 20000 in
theorem gX2_keepMade_X7_addRunOf : GoodIn wsX2_keepMade (wsV RX2 138 RX7 yX7_addRunOf wsX7_addRunOf) := goodIn_app (goodIn_of _ (by decide +kernel)) ggX2_keepMade_X7_addRunOf
theorem dX2_keepMade_0 : decode cX2_keepMade 0 = .ok (.iconst 0, 1) := by decide +kernel
theorem dX2_keepMade_1 : decode cX2_keepMade 1 = .ok (.istore_n 1, 1) := by decide +kernel
theorem dX2_keepMade_2 : decode cX2_keepMade 2 = .ok (.iload_n 1, 1) := by decide +kernel
theorem dX2_keepMade_3 : decode cX2_keepMade 3 = .ok (.aload_n 0, 1) := by decide +kernel
theorem dX2_keepMade_4 : decode cX2_keepMade 4 = .ok (.getfield 43, 3) := by decide +kernel
theorem dX2_keepMade_7 : decode cX2_keepMade 7 = .ok (.getfield 74, 3) := by decide +kernel
theorem dX2_keepMade_10 : decode cX2_keepMade 10 = .ok (.if_icmp .ge 21, 3) := by decide +kernel
theorem dX2_keepMade_13 : decode cX2_keepMade 13 = .ok (.aload_n 0, 1) := by decide +kernel
theorem dX2_keepMade_14 : decode cX2_keepMade 14 = .ok (.getfield 46, 3) := by decide +kernel
theorem dX2_keepMade_17 : decode cX2_keepMade 17 = .ok (.aload_n 0, 1) := by decide +kernel
theorem dX2_keepMade_18 : decode cX2_keepMade 18 = .ok (.getfield 43, 3) := by decide +kernel
theorem dX2_keepMade_21 : decode cX2_keepMade 21 = .ok (.iload_n 1, 1) := by decide +kernel
theorem dX2_keepMade_22 : decode cX2_keepMade 22 = .ok (.invokevirtual 138, 3) := by decide +kernel
theorem dX2_keepMade_25 : decode cX2_keepMade 25 = .ok (.iinc 1 1, 3) := by decide +kernel
theorem dX2_keepMade_28 : decode cX2_keepMade 28 = .ok (.goto (-26), 3) := by decide +kernel
theorem dX2_keepMade_31 : decode cX2_keepMade 31 = .ok (.return_, 1) := by decide +kernel
set_option maxRecDepth 20000 in
theorem ggX2_keepOthers_X3_mergeOf : GoodIn wsX2_keepOthers wsX3_mergeOf := goodIn_r _ [8, 9, 40, 41, 42, 43, 44, 45] (by decide +kernel) (by decide +kernel)
set_option maxRecDepth 20000 in
theorem gX2_keepOthers_X3_mergeOf : GoodIn wsX2_keepOthers (wsV RX2 107 RX3 yX3_mergeOf wsX3_mergeOf) := goodIn_app (goodIn_of _ (by decide +kernel)) ggX2_keepOthers_X3_mergeOf
set_option maxRecDepth 20000 in
theorem ggX2_keepOthers_X7_addRunOf : GoodIn wsX2_keepOthers wsX7_addRunOf := goodIn_r _ [14, 15, 16, 17, 18, 19, 35, 36, 37, 38, 39] (by decide +kernel) (by decide +kernel)
set_option maxRecDepth 20000 in
theorem gX2_keepOthers_X7_addRunOf : GoodIn wsX2_keepOthers (wsV RX2 138 RX7 yX7_addRunOf wsX7_addRunOf) := goodIn_app (goodIn_of _ (by decide +kernel)) ggX2_keepOthers_X7_addRunOf
theorem dX2_keepOthers_0 : decode cX2_keepOthers 0 = .ok (.iconst 0, 1) := by decide +kernel
theorem dX2_keepOthers_1 : decode cX2_keepOthers 1 = .ok (.istore_n 1, 1) := by decide +kernel
theorem dX2_keepOthers_2 : decode cX2_keepOthers 2 = .ok (.iload_n 1, 1) := by decide +kernel
theorem dX2_keepOthers_3 : decode cX2_keepOthers 3 = .ok (.aload_n 0, 1) := by decide +kernel
theorem dX2_keepOthers_4 : decode cX2_keepOthers 4 = .ok (.getfield 39, 3) := by decide +kernel
theorem dX2_keepOthers_7 : decode cX2_keepOthers 7 = .ok (.getfield 74, 3) := by decide +kernel
theorem dX2_keepOthers_10 : decode cX2_keepOthers 10 = .ok (.if_icmp .ge 33, 3) := by decide +kernel
theorem dX2_keepOthers_13 : decode cX2_keepOthers 13 = .ok (.aload_n 0, 1) := by decide +kernel
theorem dX2_keepOthers_14 : decode cX2_keepOthers 14 = .ok (.getfield 21, 3) := by decide +kernel
theorem dX2_keepOthers_17 : decode cX2_keepOthers 17 = .ok (.iload_n 1, 1) := by decide +kernel
theorem dX2_keepOthers_18 : decode cX2_keepOthers 18 = .ok (.invokevirtual 107, 3) := by decide +kernel
theorem dX2_keepOthers_21 : decode cX2_keepOthers 21 = .ok (.iconst (-1), 1) := by decide +kernel
theorem dX2_keepOthers_22 : decode cX2_keepOthers 22 = .ok (.if_icmp .ne 15, 3) := by decide +kernel
theorem dX2_keepOthers_25 : decode cX2_keepOthers 25 = .ok (.aload_n 0, 1) := by decide +kernel
theorem dX2_keepOthers_26 : decode cX2_keepOthers 26 = .ok (.getfield 46, 3) := by decide +kernel
theorem dX2_keepOthers_29 : decode cX2_keepOthers 29 = .ok (.aload_n 0, 1) := by decide +kernel
theorem dX2_keepOthers_30 : decode cX2_keepOthers 30 = .ok (.getfield 39, 3) := by decide +kernel
theorem dX2_keepOthers_33 : decode cX2_keepOthers 33 = .ok (.iload_n 1, 1) := by decide +kernel
theorem dX2_keepOthers_34 : decode cX2_keepOthers 34 = .ok (.invokevirtual 138, 3) := by decide +kernel
theorem dX2_keepOthers_37 : decode cX2_keepOthers 37 = .ok (.iinc 1 1, 3) := by decide +kernel
theorem dX2_keepOthers_40 : decode cX2_keepOthers 40 = .ok (.goto (-38), 3) := by decide +kernel
theorem dX2_keepOthers_43 : decode cX2_keepOthers 43 = .ok (.return_, 1) := by decide +kernel
set_option maxRecDepth 20000 in
theorem ggX2_losePass_X7_empty : GoodIn wsX2_losePass wsX7_empty := goodIn_r _ [9, 10, 11, 27, 28, 29, 30, 31] (by decide +kernel) (by decide +kernel)
set_option maxRecDepth 20000 in
theorem gX2_losePass_X7_empty : GoodIn wsX2_losePass (wsV RX2 84 RX7 yX7_empty wsX7_empty) := goodIn_app (goodIn_of _ (by decide +kernel)) ggX2_losePass_X7_empty
theorem dX2_losePass_0 : decode cX2_losePass 0 = .ok (.aload_n 0, 1) := by decide +kernel
theorem dX2_losePass_1 : decode cX2_losePass 1 = .ok (.getfield 61, 3) := by decide +kernel
theorem dX2_losePass_4 : decode cX2_losePass 4 = .ok (.istore_n 1, 1) := by decide +kernel
theorem dX2_losePass_5 : decode cX2_losePass 5 = .ok (.aload_n 0, 1) := by decide +kernel
theorem dX2_losePass_6 : decode cX2_losePass 6 = .ok (.dup, 1) := by decide +kernel
theorem dX2_losePass_7 : decode cX2_losePass 7 = .ok (.getfield 64, 3) := by decide +kernel
theorem dX2_losePass_10 : decode cX2_losePass 10 = .ok (.iload_n 1, 1) := by decide +kernel
theorem dX2_losePass_11 : decode cX2_losePass 11 = .ok (.iadd, 1) := by decide +kernel
theorem dX2_losePass_12 : decode cX2_losePass 12 = .ok (.putfield 64, 3) := by decide +kernel
theorem dX2_losePass_15 : decode cX2_losePass 15 = .ok (.aload_n 0, 1) := by decide +kernel
theorem dX2_losePass_16 : decode cX2_losePass 16 = .ok (.iconst 0, 1) := by decide +kernel
theorem dX2_losePass_17 : decode cX2_losePass 17 = .ok (.putfield 61, 3) := by decide +kernel
theorem dX2_losePass_20 : decode cX2_losePass 20 = .ok (.aload_n 0, 1) := by decide +kernel
theorem dX2_losePass_21 : decode cX2_losePass 21 = .ok (.getfield 43, 3) := by decide +kernel
theorem dX2_losePass_24 : decode cX2_losePass 24 = .ok (.invokevirtual 84, 3) := by decide +kernel
theorem dX2_losePass_27 : decode cX2_losePass 27 = .ok (.aload_n 0, 1) := by decide +kernel
theorem dX2_losePass_28 : decode cX2_losePass 28 = .ok (.dup, 1) := by decide +kernel
theorem dX2_losePass_29 : decode cX2_losePass 29 = .ok (.getfield 67, 3) := by decide +kernel
theorem dX2_losePass_32 : decode cX2_losePass 32 = .ok (.iconst 1, 1) := by decide +kernel
theorem dX2_losePass_33 : decode cX2_losePass 33 = .ok (.iadd, 1) := by decide +kernel
theorem dX2_losePass_34 : decode cX2_losePass 34 = .ok (.putfield 67, 3) := by decide +kernel
theorem dX2_losePass_37 : decode cX2_losePass 37 = .ok (.iload_n 1, 1) := by decide +kernel
theorem dX2_losePass_38 : decode cX2_losePass 38 = .ok (.ireturn, 1) := by decide +kernel
set_option maxRecDepth 20000 in
theorem ggX2_runsLeft_X3_mergeOf : GoodIn wsX2_runsLeft wsX3_mergeOf := goodIn_r _ [8, 9, 30, 31, 32, 33, 34, 35] (by decide +kernel) (by decide +kernel)
set_option maxRecDepth 20000 in
theorem gX2_runsLeft_X3_mergeOf : GoodIn wsX2_runsLeft (wsV RX2 107 RX3 yX3_mergeOf wsX3_mergeOf) := goodIn_app (goodIn_of _ (by decide +kernel)) ggX2_runsLeft_X3_mergeOf
theorem dX2_runsLeft_0 : decode cX2_runsLeft 0 = .ok (.aload_n 0, 1) := by decide +kernel
theorem dX2_runsLeft_1 : decode cX2_runsLeft 1 = .ok (.getfield 43, 3) := by decide +kernel
theorem dX2_runsLeft_4 : decode cX2_runsLeft 4 = .ok (.getfield 74, 3) := by decide +kernel
theorem dX2_runsLeft_7 : decode cX2_runsLeft 7 = .ok (.istore_n 1, 1) := by decide +kernel
theorem dX2_runsLeft_8 : decode cX2_runsLeft 8 = .ok (.iconst 0, 1) := by decide +kernel
theorem dX2_runsLeft_9 : decode cX2_runsLeft 9 = .ok (.istore_n 2, 1) := by decide +kernel
theorem dX2_runsLeft_10 : decode cX2_runsLeft 10 = .ok (.iload_n 2, 1) := by decide +kernel
theorem dX2_runsLeft_11 : decode cX2_runsLeft 11 = .ok (.aload_n 0, 1) := by decide +kernel
theorem dX2_runsLeft_12 : decode cX2_runsLeft 12 = .ok (.getfield 39, 3) := by decide +kernel
theorem dX2_runsLeft_15 : decode cX2_runsLeft 15 = .ok (.getfield 74, 3) := by decide +kernel
theorem dX2_runsLeft_18 : decode cX2_runsLeft 18 = .ok (.if_icmp .ge 53, 3) := by decide +kernel
theorem dX2_runsLeft_21 : decode cX2_runsLeft 21 = .ok (.aload_n 0, 1) := by decide +kernel
theorem dX2_runsLeft_22 : decode cX2_runsLeft 22 = .ok (.getfield 21, 3) := by decide +kernel
theorem dX2_runsLeft_25 : decode cX2_runsLeft 25 = .ok (.iload_n 2, 1) := by decide +kernel
theorem dX2_runsLeft_26 : decode cX2_runsLeft 26 = .ok (.invokevirtual 107, 3) := by decide +kernel
theorem dX2_runsLeft_29 : decode cX2_runsLeft 29 = .ok (.istore_n 3, 1) := by decide +kernel
theorem dX2_runsLeft_30 : decode cX2_runsLeft 30 = .ok (.iload_n 3, 1) := by decide +kernel
theorem dX2_runsLeft_31 : decode cX2_runsLeft 31 = .ok (.ifCond .lt 18, 3) := by decide +kernel
theorem dX2_runsLeft_34 : decode cX2_runsLeft 34 = .ok (.iload_n 3, 1) := by decide +kernel
theorem dX2_runsLeft_35 : decode cX2_runsLeft 35 = .ok (.aload_n 0, 1) := by decide +kernel
theorem dX2_runsLeft_36 : decode cX2_runsLeft 36 = .ok (.getfield 43, 3) := by decide +kernel
theorem dX2_runsLeft_39 : decode cX2_runsLeft 39 = .ok (.getfield 74, 3) := by decide +kernel
theorem dX2_runsLeft_42 : decode cX2_runsLeft 42 = .ok (.if_icmp .ge 7, 3) := by decide +kernel
theorem dX2_runsLeft_45 : decode cX2_runsLeft 45 = .ok (.iconst 1, 1) := by decide +kernel
theorem dX2_runsLeft_46 : decode cX2_runsLeft 46 = .ok (.goto 4, 3) := by decide +kernel
theorem dX2_runsLeft_49 : decode cX2_runsLeft 49 = .ok (.iconst 0, 1) := by decide +kernel
theorem dX2_runsLeft_50 : decode cX2_runsLeft 50 = .ok (.istore 4, 2) := by decide +kernel
theorem dX2_runsLeft_52 : decode cX2_runsLeft 52 = .ok (.iload_n 1, 1) := by decide +kernel
theorem dX2_runsLeft_53 : decode cX2_runsLeft 53 = .ok (.iload 4, 2) := by decide +kernel
theorem dX2_runsLeft_55 : decode cX2_runsLeft 55 = .ok (.ifCond .eq 7, 3) := by decide +kernel
theorem dX2_runsLeft_58 : decode cX2_runsLeft 58 = .ok (.iconst 0, 1) := by decide +kernel
theorem dX2_runsLeft_59 : decode cX2_runsLeft 59 = .ok (.goto 4, 3) := by decide +kernel
theorem dX2_runsLeft_62 : decode cX2_runsLeft 62 = .ok (.iconst 1, 1) := by decide +kernel
theorem dX2_runsLeft_63 : decode cX2_runsLeft 63 = .ok (.iadd, 1) := by decide +kernel
theorem dX2_runsLeft_64 : decode cX2_runsLeft 64 = .ok (.istore_n 1, 1) := by decide +kernel
theorem dX2_runsLeft_65 : decode cX2_runsLeft 65 = .ok (.iinc 2 1, 3) := by decide +kernel
theorem dX2_runsLeft_68 : decode cX2_runsLeft 68 = .ok (.goto (-58), 3) := by decide +kernel
theorem dX2_runsLeft_71 : decode cX2_runsLeft 71 = .ok (.iload_n 1, 1) := by decide +kernel
theorem dX2_runsLeft_72 : decode cX2_runsLeft 72 = .ok (.ireturn, 1) := by decide +kernel
set_option maxRecDepth 20000 in
theorem ggX2_doWhole_X2_start : GoodIn wsX2_doWhole wsX2_start := goodIn_r _ [5, 6, 7, 8, 9, 10, 11, 12, 13, 14, 15, 16, 17, 18, 19, 20, 21, 22, 23, 24, 25, 26, 27, 28, 29, 30, 31, 32, 33, 34, 35, 36, 37, 38, 39, 40, 41, 42, 43, 44, 45, 46, 47, 48, 49, 50, 51, 52, 53, 54, 55, 56, 57, 58, 59, 60, 61, 62, 63, 64, 65, 66, 67, 68, 69, 70, 71, 72, 73, 74, 75, 76, 77, 78, 79, 80, 81, 82, 83, 84, 85, 86, 87, 88, 89, 90, 91, 92, 93, 94, 95, 96, 97, 98, 99, 100, 101, 102, 103, 104, 105, 106, 107, 108, 198, 199, 200, 201, 202, 203, 204, 205, 206, 207, 208, 209, 210, 211, 212, 213, 214, 215, 216, 217, 218, 219, 220, 221, 222, 223, 224, 225, 226, 227, 228, 229, 230, 231, 232, 233, 234, 235, 236] (by decide +kernel) (by decide +kernel)
set_option maxRecDepth 20000 in
theorem gX2_doWhole_X2_start : GoodIn wsX2_doWhole (wsV RX2 142 RX2 yX2_start wsX2_start) := goodIn_app (goodIn_of _ (by decide +kernel)) ggX2_doWhole_X2_start
set_option maxRecDepth 20000 in
theorem ggX2_doWhole_X2_isOver : GoodIn wsX2_doWhole wsX2_isOver := goodIn_r _ [112, 7, 198, 199, 200, 201, 202, 203, 204, 205, 206, 207, 208, 209, 210, 211, 212, 213, 214, 215, 216, 217] (by decide +kernel) (by decide +kernel)
set_option maxRecDepth 20000 in
theorem gX2_doWhole_X2_isOver : GoodIn wsX2_doWhole (wsV RX2 146 RX2 yX2_isOver wsX2_isOver) := goodIn_app (goodIn_of _ (by decide +kernel)) ggX2_doWhole_X2_isOver
set_option maxRecDepth 20000 in
theorem ggX2_doWhole_X2_doMerge : GoodIn wsX2_doWhole wsX2_doMerge := goodIn_r _ [116, 9, 8, 7, 12, 13, 14, 117, 118, 119, 94, 120, 121, 97, 23, 24, 25, 96, 122, 123, 124, 125, 99, 101, 126, 127, 128, 129, 130, 131, 132, 133, 102, 134, 135, 136, 4, 137, 138, 139, 140, 141, 142, 143, 144, 145, 146, 147, 32, 148, 34, 64, 107, 60, 61, 62, 63, 35, 149, 150, 151, 152, 153, 154, 155, 156, 69, 157, 66, 67, 68, 158, 159, 160, 161, 162, 11, 108, 30, 31, 33, 163, 164, 165, 166, 167, 168, 169, 170, 171, 172, 173, 174, 175, 176, 177, 178, 179, 180, 181, 182, 198, 199, 200, 201, 202, 203, 204, 205, 206, 207, 208, 209, 210, 211, 212, 213, 214, 215, 216, 217, 231, 232, 233, 234, 235, 236] (by decide +kernel) (by decide +kernel)
set_option maxRecDepth 20000 in
theorem gX2_doWhole_X2_doMerge : GoodIn wsX2_doWhole (wsV RX2 149 RX2 yX2_doMerge wsX2_doMerge) := goodIn_app (goodIn_of _ (by decide +kernel)) ggX2_doWhole_X2_doMerge
set_option maxRecDepth 20000 in
theorem ggX2_doWhole_X2_writeTo : GoodIn wsX2_doWhole wsX2_writeTo := goodIn_r _ [186, 7, 187, 188, 189, 45, 190, 47, 145, 146, 147, 32, 148, 34, 64, 153, 154, 155, 156, 63, 69, 191, 192, 52, 193, 194, 195, 196, 197, 48, 198, 199, 200, 201, 202, 203, 204, 205, 206, 207, 208, 209, 210, 211, 212, 218, 219, 213, 214, 215, 216, 217] (by decide +kernel) (by decide +kernel)
set_option maxRecDepth 20000 in
theorem gX2_doWhole_X2_writeTo : GoodIn wsX2_doWhole (wsV RX2 152 RX2 yX2_writeTo wsX2_writeTo) := goodIn_app (goodIn_of _ (by decide +kernel)) ggX2_doWhole_X2_writeTo
theorem dX2_doWhole_0 : decode cX2_doWhole 0 = .ok (.aload_n 0, 1) := by decide +kernel
theorem dX2_doWhole_1 : decode cX2_doWhole 1 = .ok (.aload_n 1, 1) := by decide +kernel
theorem dX2_doWhole_2 : decode cX2_doWhole 2 = .ok (.aload_n 2, 1) := by decide +kernel
theorem dX2_doWhole_3 : decode cX2_doWhole 3 = .ok (.iconst 0, 1) := by decide +kernel
theorem dX2_doWhole_4 : decode cX2_doWhole 4 = .ok (.aload 4, 2) := by decide +kernel
theorem dX2_doWhole_6 : decode cX2_doWhole 6 = .ok (.invokevirtual 142, 3) := by decide +kernel
theorem dX2_doWhole_9 : decode cX2_doWhole 9 = .ok (.pop, 1) := by decide +kernel
theorem dX2_doWhole_10 : decode cX2_doWhole 10 = .ok (.iconst 0, 1) := by decide +kernel
theorem dX2_doWhole_11 : decode cX2_doWhole 11 = .ok (.istore 5, 2) := by decide +kernel
theorem dX2_doWhole_13 : decode cX2_doWhole 13 = .ok (.iload 5, 2) := by decide +kernel
theorem dX2_doWhole_15 : decode cX2_doWhole 15 = .ok (.sipush 200, 3) := by decide +kernel
theorem dX2_doWhole_18 : decode cX2_doWhole 18 = .ok (.if_icmp .ge 20, 3) := by decide +kernel
theorem dX2_doWhole_21 : decode cX2_doWhole 21 = .ok (.aload_n 0, 1) := by decide +kernel
theorem dX2_doWhole_22 : decode cX2_doWhole 22 = .ok (.invokevirtual 146, 3) := by decide +kernel
theorem dX2_doWhole_25 : decode cX2_doWhole 25 = .ok (.ifCond .ne 13, 3) := by decide +kernel
theorem dX2_doWhole_28 : decode cX2_doWhole 28 = .ok (.aload_n 0, 1) := by decide +kernel
theorem dX2_doWhole_29 : decode cX2_doWhole 29 = .ok (.invokevirtual 149, 3) := by decide +kernel
theorem dX2_doWhole_32 : decode cX2_doWhole 32 = .ok (.iinc 5 1, 3) := by decide +kernel
theorem dX2_doWhole_35 : decode cX2_doWhole 35 = .ok (.goto (-22), 3) := by decide +kernel
theorem dX2_doWhole_38 : decode cX2_doWhole 38 = .ok (.aload_n 0, 1) := by decide +kernel
theorem dX2_doWhole_39 : decode cX2_doWhole 39 = .ok (.aload_n 3, 1) := by decide +kernel
theorem dX2_doWhole_40 : decode cX2_doWhole 40 = .ok (.invokevirtual 152, 3) := by decide +kernel
theorem dX2_doWhole_43 : decode cX2_doWhole 43 = .ok (.return_, 1) := by decide +kernel
set_option maxRecDepth 20000 in
theorem ggX2_writeTo_X9_empty : GoodIn wsX2_writeTo wsX9_empty := goodIn_r _ [6, 7, 45, 46] (by decide +kernel) (by decide +kernel)
set_option maxRecDepth 20000 in
theorem gX2_writeTo_X9_empty : GoodIn wsX2_writeTo (wsV RX2 156 RX9 yX9_empty wsX9_empty) := goodIn_app (goodIn_of _ (by decide +kernel)) ggX2_writeTo_X9_empty
set_option maxRecDepth 20000 in
theorem ggX2_writeTo_X7_lengthOf : GoodIn wsX2_writeTo wsX7_lengthOf := goodIn_r _ [12, 13, 14, 47, 48, 49, 50, 51] (by decide +kernel) (by decide +kernel)
set_option maxRecDepth 20000 in
theorem gX2_writeTo_X7_lengthOf : GoodIn wsX2_writeTo (wsV RX2 110 RX7 yX7_lengthOf wsX7_lengthOf) := goodIn_app (goodIn_of _ (by decide +kernel)) ggX2_writeTo_X7_lengthOf
set_option maxRecDepth 20000 in
theorem ggX2_writeTo_X7_rankAt : GoodIn wsX2_writeTo wsX7_rankAt := goodIn_r _ [18, 13, 14, 19, 20, 47, 48, 49, 50, 51] (by decide +kernel) (by decide +kernel)
set_option maxRecDepth 20000 in
theorem gX2_writeTo_X7_rankAt : GoodIn wsX2_writeTo (wsV RX2 117 RX7 yX7_rankAt wsX7_rankAt) := goodIn_app (goodIn_of _ (by decide +kernel)) ggX2_writeTo_X7_rankAt
set_option maxRecDepth 20000 in
theorem ggX2_writeTo_X0_recordOf : GoodIn wsX2_writeTo wsX0_recordOf := goodIn_r _ [24] (by decide +kernel) (by decide +kernel)
set_option maxRecDepth 20000 in
theorem gX2_writeTo_X0_recordOf : GoodIn wsX2_writeTo (va_wsS RX2 157 yX0_recordOf wsX0_recordOf) := goodIn_app (goodIn_of _ (by decide +kernel)) ggX2_writeTo_X0_recordOf
set_option maxRecDepth 20000 in
theorem ggX2_writeTo_X9_add : GoodIn wsX2_writeTo wsX9_add := goodIn_r _ [28, 7, 29, 45, 46] (by decide +kernel) (by decide +kernel)
set_option maxRecDepth 20000 in
theorem gX2_writeTo_X9_add : GoodIn wsX2_writeTo (wsV RX2 162 RX9 yX9_add wsX9_add) := goodIn_app (goodIn_of _ (by decide +kernel)) ggX2_writeTo_X9_add
theorem dX2_writeTo_0 : decode cX2_writeTo 0 = .ok (.aload_n 1, 1) := by decide +kernel
theorem dX2_writeTo_1 : decode cX2_writeTo 1 = .ok (.invokevirtual 156, 3) := by decide +kernel
theorem dX2_writeTo_4 : decode cX2_writeTo 4 = .ok (.aload_n 0, 1) := by decide +kernel
theorem dX2_writeTo_5 : decode cX2_writeTo 5 = .ok (.getfield 39, 3) := by decide +kernel
theorem dX2_writeTo_8 : decode cX2_writeTo 8 = .ok (.iconst 0, 1) := by decide +kernel
theorem dX2_writeTo_9 : decode cX2_writeTo 9 = .ok (.invokevirtual 110, 3) := by decide +kernel
theorem dX2_writeTo_12 : decode cX2_writeTo 12 = .ok (.istore_n 2, 1) := by decide +kernel
theorem dX2_writeTo_13 : decode cX2_writeTo 13 = .ok (.iconst 0, 1) := by decide +kernel
theorem dX2_writeTo_14 : decode cX2_writeTo 14 = .ok (.istore_n 3, 1) := by decide +kernel
theorem dX2_writeTo_15 : decode cX2_writeTo 15 = .ok (.iload_n 3, 1) := by decide +kernel
theorem dX2_writeTo_16 : decode cX2_writeTo 16 = .ok (.iload_n 2, 1) := by decide +kernel
theorem dX2_writeTo_17 : decode cX2_writeTo 17 = .ok (.if_icmp .ge 25, 3) := by decide +kernel
theorem dX2_writeTo_20 : decode cX2_writeTo 20 = .ok (.aload_n 1, 1) := by decide +kernel
theorem dX2_writeTo_21 : decode cX2_writeTo 21 = .ok (.aload_n 0, 1) := by decide +kernel
theorem dX2_writeTo_22 : decode cX2_writeTo 22 = .ok (.getfield 39, 3) := by decide +kernel
theorem dX2_writeTo_25 : decode cX2_writeTo 25 = .ok (.iconst 0, 1) := by decide +kernel
theorem dX2_writeTo_26 : decode cX2_writeTo 26 = .ok (.iload_n 3, 1) := by decide +kernel
theorem dX2_writeTo_27 : decode cX2_writeTo 27 = .ok (.invokevirtual 117, 3) := by decide +kernel
theorem dX2_writeTo_30 : decode cX2_writeTo 30 = .ok (.invokestatic 157, 3) := by decide +kernel
theorem dX2_writeTo_33 : decode cX2_writeTo 33 = .ok (.invokevirtual 162, 3) := by decide +kernel
theorem dX2_writeTo_36 : decode cX2_writeTo 36 = .ok (.iinc 3 1, 3) := by decide +kernel
theorem dX2_writeTo_39 : decode cX2_writeTo 39 = .ok (.goto (-24), 3) := by decide +kernel
theorem dX2_writeTo_42 : decode cX2_writeTo 42 = .ok (.return_, 1) := by decide +kernel
theorem dX3_init_0 : decode cX3_init 0 = .ok (.aload_n 0, 1) := by decide +kernel
theorem dX3_init_1 : decode cX3_init 1 = .ok (.invokespecial 3, 3) := by decide +kernel
theorem dX3_init_4 : decode cX3_init 4 = .ok (.aload_n 0, 1) := by decide +kernel
theorem dX3_init_5 : decode cX3_init 5 = .ok (.sipush 200, 3) := by decide +kernel
theorem dX3_init_8 : decode cX3_init 8 = .ok (.newarray .int, 2) := by decide +kernel
theorem dX3_init_10 : decode cX3_init 10 = .ok (.putfield 9, 3) := by decide +kernel
theorem dX3_init_13 : decode cX3_init 13 = .ok (.aload_n 0, 1) := by decide +kernel
theorem dX3_init_14 : decode cX3_init 14 = .ok (.bipush 6, 2) := by decide +kernel
theorem dX3_init_16 : decode cX3_init 16 = .ok (.newarray .int, 2) := by decide +kernel
theorem dX3_init_18 : decode cX3_init 18 = .ok (.putfield 15, 3) := by decide +kernel
theorem dX3_init_21 : decode cX3_init 21 = .ok (.aload_n 0, 1) := by decide +kernel
theorem dX3_init_22 : decode cX3_init 22 = .ok (.iconst 0, 1) := by decide +kernel
theorem dX3_init_23 : decode cX3_init 23 = .ok (.putfield 18, 3) := by decide +kernel
theorem dX3_init_26 : decode cX3_init 26 = .ok (.aload_n 0, 1) := by decide +kernel
theorem dX3_init_27 : decode cX3_init 27 = .ok (.iconst 2, 1) := by decide +kernel
theorem dX3_init_28 : decode cX3_init 28 = .ok (.putfield 22, 3) := by decide +kernel
theorem dX3_init_31 : decode cX3_init 31 = .ok (.aload_n 0, 1) := by decide +kernel
theorem dX3_init_32 : decode cX3_init 32 = .ok (.iconst 0, 1) := by decide +kernel
theorem dX3_init_33 : decode cX3_init 33 = .ok (.putfield 25, 3) := by decide +kernel
theorem dX3_init_36 : decode cX3_init 36 = .ok (.aload_n 0, 1) := by decide +kernel
theorem dX3_init_37 : decode cX3_init 37 = .ok (.iconst 0, 1) := by decide +kernel
theorem dX3_init_38 : decode cX3_init 38 = .ok (.putfield 28, 3) := by decide +kernel
theorem dX3_init_41 : decode cX3_init 41 = .ok (.return_, 1) := by decide +kernel
set_option maxRecDepth 20000 in
theorem ggX3_arrange_X3_raiseLevel : GoodIn wsX3_arrange wsX3_raiseLevel := goodIn_r _ [17, 12, 9, 23, 24, 25, 26, 27, 28] (by decide +kernel) (by decide +kernel)
set_option maxRecDepth 20000 in
theorem gX3_arrange_X3_raiseLevel : GoodIn wsX3_arrange (wsV RX3 46 RX3 yX3_raiseLevel wsX3_raiseLevel) := goodIn_app (goodIn_of _ (by decide +kernel)) ggX3_arrange_X3_raiseLevel
theorem dX3_arrange_0 : decode cX3_arrange 0 = .ok (.aload_n 0, 1) := by decide +kernel
theorem dX3_arrange_1 : decode cX3_arrange 1 = .ok (.aload_n 1, 1) := by decide +kernel
theorem dX3_arrange_2 : decode cX3_arrange 2 = .ok (.getfield 31, 3) := by decide +kernel
theorem dX3_arrange_5 : decode cX3_arrange 5 = .ok (.putfield 18, 3) := by decide +kernel
theorem dX3_arrange_8 : decode cX3_arrange 8 = .ok (.aload_n 0, 1) := by decide +kernel
theorem dX3_arrange_9 : decode cX3_arrange 9 = .ok (.iconst 2, 1) := by decide +kernel
theorem dX3_arrange_10 : decode cX3_arrange 10 = .ok (.aload_n 1, 1) := by decide +kernel
theorem dX3_arrange_11 : decode cX3_arrange 11 = .ok (.getfield 36, 3) := by decide +kernel
theorem dX3_arrange_14 : decode cX3_arrange 14 = .ok (.bipush 6, 2) := by decide +kernel
theorem dX3_arrange_16 : decode cX3_arrange 16 = .ok (.invokestatic 37, 3) := by decide +kernel
theorem dX3_arrange_19 : decode cX3_arrange 19 = .ok (.invokestatic 43, 3) := by decide +kernel
theorem dX3_arrange_22 : decode cX3_arrange 22 = .ok (.putfield 22, 3) := by decide +kernel
theorem dX3_arrange_25 : decode cX3_arrange 25 = .ok (.aload_n 0, 1) := by decide +kernel
theorem dX3_arrange_26 : decode cX3_arrange 26 = .ok (.iconst 0, 1) := by decide +kernel
theorem dX3_arrange_27 : decode cX3_arrange 27 = .ok (.putfield 28, 3) := by decide +kernel
theorem dX3_arrange_30 : decode cX3_arrange 30 = .ok (.aload_n 0, 1) := by decide +kernel
theorem dX3_arrange_31 : decode cX3_arrange 31 = .ok (.iconst 0, 1) := by decide +kernel
theorem dX3_arrange_32 : decode cX3_arrange 32 = .ok (.putfield 25, 3) := by decide +kernel
theorem dX3_arrange_35 : decode cX3_arrange 35 = .ok (.aload_n 0, 1) := by decide +kernel
theorem dX3_arrange_36 : decode cX3_arrange 36 = .ok (.getfield 18, 3) := by decide +kernel
theorem dX3_arrange_39 : decode cX3_arrange 39 = .ok (.iconst 2, 1) := by decide +kernel
theorem dX3_arrange_40 : decode cX3_arrange 40 = .ok (.if_icmp .ne 7, 3) := by decide +kernel
theorem dX3_arrange_43 : decode cX3_arrange 43 = .ok (.iload_n 2, 1) := by decide +kernel
theorem dX3_arrange_44 : decode cX3_arrange 44 = .ok (.ifCond .ne 5, 3) := by decide +kernel
theorem dX3_arrange_47 : decode cX3_arrange 47 = .ok (.iload_n 2, 1) := by decide +kernel
theorem dX3_arrange_48 : decode cX3_arrange 48 = .ok (.ireturn, 1) := by decide +kernel
theorem dX3_arrange_49 : decode cX3_arrange 49 = .ok (.iconst 0, 1) := by decide +kernel
theorem dX3_arrange_50 : decode cX3_arrange 50 = .ok (.istore_n 3, 1) := by decide +kernel
theorem dX3_arrange_51 : decode cX3_arrange 51 = .ok (.iload_n 3, 1) := by decide +kernel
theorem dX3_arrange_52 : decode cX3_arrange 52 = .ok (.bipush 6, 2) := by decide +kernel
theorem dX3_arrange_54 : decode cX3_arrange 54 = .ok (.if_icmp .ge 24, 3) := by decide +kernel
theorem dX3_arrange_57 : decode cX3_arrange 57 = .ok (.aload_n 0, 1) := by decide +kernel
theorem dX3_arrange_58 : decode cX3_arrange 58 = .ok (.getfield 15, 3) := by decide +kernel
theorem dX3_arrange_61 : decode cX3_arrange 61 = .ok (.iload_n 3, 1) := by decide +kernel
theorem dX3_arrange_62 : decode cX3_arrange 62 = .ok (.iload_n 3, 1) := by decide +kernel
theorem dX3_arrange_63 : decode cX3_arrange 63 = .ok (.ifCond .ne 7, 3) := by decide +kernel
theorem dX3_arrange_66 : decode cX3_arrange 66 = .ok (.iconst 1, 1) := by decide +kernel
theorem dX3_arrange_67 : decode cX3_arrange 67 = .ok (.goto 4, 3) := by decide +kernel
theorem dX3_arrange_70 : decode cX3_arrange 70 = .ok (.iconst 0, 1) := by decide +kernel
theorem dX3_arrange_71 : decode cX3_arrange 71 = .ok (.iastore, 1) := by decide +kernel
theorem dX3_arrange_72 : decode cX3_arrange 72 = .ok (.iinc 3 1, 3) := by decide +kernel
theorem dX3_arrange_75 : decode cX3_arrange 75 = .ok (.goto (-24), 3) := by decide +kernel
theorem dX3_arrange_78 : decode cX3_arrange 78 = .ok (.iconst 1, 1) := by decide +kernel
theorem dX3_arrange_79 : decode cX3_arrange 79 = .ok (.istore_n 3, 1) := by decide +kernel
theorem dX3_arrange_80 : decode cX3_arrange 80 = .ok (.iload_n 3, 1) := by decide +kernel
theorem dX3_arrange_81 : decode cX3_arrange 81 = .ok (.iload_n 2, 1) := by decide +kernel
theorem dX3_arrange_82 : decode cX3_arrange 82 = .ok (.if_icmp .ge 31, 3) := by decide +kernel
theorem dX3_arrange_85 : decode cX3_arrange 85 = .ok (.aload_n 0, 1) := by decide +kernel
theorem dX3_arrange_86 : decode cX3_arrange 86 = .ok (.getfield 28, 3) := by decide +kernel
theorem dX3_arrange_89 : decode cX3_arrange 89 = .ok (.sipush 200, 3) := by decide +kernel
theorem dX3_arrange_92 : decode cX3_arrange 92 = .ok (.if_icmp .ge 21, 3) := by decide +kernel
theorem dX3_arrange_95 : decode cX3_arrange 95 = .ok (.aload_n 0, 1) := by decide +kernel
theorem dX3_arrange_96 : decode cX3_arrange 96 = .ok (.invokevirtual 46, 3) := by decide +kernel
theorem dX3_arrange_99 : decode cX3_arrange 99 = .ok (.istore_n 3, 1) := by decide +kernel
theorem dX3_arrange_100 : decode cX3_arrange 100 = .ok (.aload_n 0, 1) := by decide +kernel
theorem dX3_arrange_101 : decode cX3_arrange 101 = .ok (.dup, 1) := by decide +kernel
theorem dX3_arrange_102 : decode cX3_arrange 102 = .ok (.getfield 28, 3) := by decide +kernel
theorem dX3_arrange_105 : decode cX3_arrange 105 = .ok (.iconst 1, 1) := by decide +kernel
theorem dX3_arrange_106 : decode cX3_arrange 106 = .ok (.iadd, 1) := by decide +kernel
theorem dX3_arrange_107 : decode cX3_arrange 107 = .ok (.putfield 28, 3) := by decide +kernel
theorem dX3_arrange_110 : decode cX3_arrange 110 = .ok (.goto (-30), 3) := by decide +kernel
theorem dX3_arrange_113 : decode cX3_arrange 113 = .ok (.iload_n 3, 1) := by decide +kernel
theorem dX3_arrange_114 : decode cX3_arrange 114 = .ok (.ireturn, 1) := by decide +kernel
theorem dX3_raiseLevel_0 : decode cX3_raiseLevel 0 = .ok (.aload_n 0, 1) := by decide +kernel
theorem dX3_raiseLevel_1 : decode cX3_raiseLevel 1 = .ok (.getfield 15, 3) := by decide +kernel
theorem dX3_raiseLevel_4 : decode cX3_raiseLevel 4 = .ok (.iconst 0, 1) := by decide +kernel
theorem dX3_raiseLevel_5 : decode cX3_raiseLevel 5 = .ok (.iaload, 1) := by decide +kernel
theorem dX3_raiseLevel_6 : decode cX3_raiseLevel 6 = .ok (.istore_n 1, 1) := by decide +kernel
theorem dX3_raiseLevel_7 : decode cX3_raiseLevel 7 = .ok (.iconst 0, 1) := by decide +kernel
theorem dX3_raiseLevel_8 : decode cX3_raiseLevel 8 = .ok (.istore_n 2, 1) := by decide +kernel
theorem dX3_raiseLevel_9 : decode cX3_raiseLevel 9 = .ok (.iconst 0, 1) := by decide +kernel
theorem dX3_raiseLevel_10 : decode cX3_raiseLevel 10 = .ok (.istore_n 3, 1) := by decide +kernel
theorem dX3_raiseLevel_11 : decode cX3_raiseLevel 11 = .ok (.iload_n 3, 1) := by decide +kernel
theorem dX3_raiseLevel_12 : decode cX3_raiseLevel 12 = .ok (.aload_n 0, 1) := by decide +kernel
theorem dX3_raiseLevel_13 : decode cX3_raiseLevel 13 = .ok (.getfield 22, 3) := by decide +kernel
theorem dX3_raiseLevel_16 : decode cX3_raiseLevel 16 = .ok (.if_icmp .ge 74, 3) := by decide +kernel
theorem dX3_raiseLevel_19 : decode cX3_raiseLevel 19 = .ok (.iload_n 3, 1) := by decide +kernel
theorem dX3_raiseLevel_20 : decode cX3_raiseLevel 20 = .ok (.bipush 6, 2) := by decide +kernel
theorem dX3_raiseLevel_22 : decode cX3_raiseLevel 22 = .ok (.if_icmp .ge 68, 3) := by decide +kernel
theorem dX3_raiseLevel_25 : decode cX3_raiseLevel 25 = .ok (.iload_n 3, 1) := by decide +kernel
theorem dX3_raiseLevel_26 : decode cX3_raiseLevel 26 = .ok (.iconst 1, 1) := by decide +kernel
theorem dX3_raiseLevel_27 : decode cX3_raiseLevel 27 = .ok (.iadd, 1) := by decide +kernel
theorem dX3_raiseLevel_28 : decode cX3_raiseLevel 28 = .ok (.aload_n 0, 1) := by decide +kernel
theorem dX3_raiseLevel_29 : decode cX3_raiseLevel 29 = .ok (.getfield 22, 3) := by decide +kernel
theorem dX3_raiseLevel_32 : decode cX3_raiseLevel 32 = .ok (.if_icmp .ge 11, 3) := by decide +kernel
theorem dX3_raiseLevel_35 : decode cX3_raiseLevel 35 = .ok (.iload_n 3, 1) := by decide +kernel
theorem dX3_raiseLevel_36 : decode cX3_raiseLevel 36 = .ok (.iconst 1, 1) := by decide +kernel
theorem dX3_raiseLevel_37 : decode cX3_raiseLevel 37 = .ok (.iadd, 1) := by decide +kernel
theorem dX3_raiseLevel_38 : decode cX3_raiseLevel 38 = .ok (.bipush 6, 2) := by decide +kernel
theorem dX3_raiseLevel_40 : decode cX3_raiseLevel 40 = .ok (.if_icmp .lt 7, 3) := by decide +kernel
theorem dX3_raiseLevel_43 : decode cX3_raiseLevel 43 = .ok (.iconst 1, 1) := by decide +kernel
theorem dX3_raiseLevel_44 : decode cX3_raiseLevel 44 = .ok (.goto 4, 3) := by decide +kernel
theorem dX3_raiseLevel_47 : decode cX3_raiseLevel 47 = .ok (.iconst 0, 1) := by decide +kernel
theorem dX3_raiseLevel_48 : decode cX3_raiseLevel 48 = .ok (.istore 4, 2) := by decide +kernel
theorem dX3_raiseLevel_50 : decode cX3_raiseLevel 50 = .ok (.aload_n 0, 1) := by decide +kernel
theorem dX3_raiseLevel_51 : decode cX3_raiseLevel 51 = .ok (.getfield 15, 3) := by decide +kernel
theorem dX3_raiseLevel_54 : decode cX3_raiseLevel 54 = .ok (.iload_n 3, 1) := by decide +kernel
theorem dX3_raiseLevel_55 : decode cX3_raiseLevel 55 = .ok (.iload 4, 2) := by decide +kernel
theorem dX3_raiseLevel_57 : decode cX3_raiseLevel 57 = .ok (.ifCond .eq 7, 3) := by decide +kernel
theorem dX3_raiseLevel_60 : decode cX3_raiseLevel 60 = .ok (.iload_n 1, 1) := by decide +kernel
theorem dX3_raiseLevel_61 : decode cX3_raiseLevel 61 = .ok (.goto 13, 3) := by decide +kernel
theorem dX3_raiseLevel_64 : decode cX3_raiseLevel 64 = .ok (.iload_n 1, 1) := by decide +kernel
theorem dX3_raiseLevel_65 : decode cX3_raiseLevel 65 = .ok (.aload_n 0, 1) := by decide +kernel
theorem dX3_raiseLevel_66 : decode cX3_raiseLevel 66 = .ok (.getfield 15, 3) := by decide +kernel
theorem dX3_raiseLevel_69 : decode cX3_raiseLevel 69 = .ok (.iload_n 3, 1) := by decide +kernel
theorem dX3_raiseLevel_70 : decode cX3_raiseLevel 70 = .ok (.iconst 1, 1) := by decide +kernel
theorem dX3_raiseLevel_71 : decode cX3_raiseLevel 71 = .ok (.iadd, 1) := by decide +kernel
theorem dX3_raiseLevel_72 : decode cX3_raiseLevel 72 = .ok (.iaload, 1) := by decide +kernel
theorem dX3_raiseLevel_73 : decode cX3_raiseLevel 73 = .ok (.iadd, 1) := by decide +kernel
theorem dX3_raiseLevel_74 : decode cX3_raiseLevel 74 = .ok (.iastore, 1) := by decide +kernel
theorem dX3_raiseLevel_75 : decode cX3_raiseLevel 75 = .ok (.iload_n 2, 1) := by decide +kernel
theorem dX3_raiseLevel_76 : decode cX3_raiseLevel 76 = .ok (.aload_n 0, 1) := by decide +kernel
theorem dX3_raiseLevel_77 : decode cX3_raiseLevel 77 = .ok (.getfield 15, 3) := by decide +kernel
theorem dX3_raiseLevel_80 : decode cX3_raiseLevel 80 = .ok (.iload_n 3, 1) := by decide +kernel
theorem dX3_raiseLevel_81 : decode cX3_raiseLevel 81 = .ok (.iaload, 1) := by decide +kernel
theorem dX3_raiseLevel_82 : decode cX3_raiseLevel 82 = .ok (.iadd, 1) := by decide +kernel
theorem dX3_raiseLevel_83 : decode cX3_raiseLevel 83 = .ok (.istore_n 2, 1) := by decide +kernel
theorem dX3_raiseLevel_84 : decode cX3_raiseLevel 84 = .ok (.iinc 3 1, 3) := by decide +kernel
theorem dX3_raiseLevel_87 : decode cX3_raiseLevel 87 = .ok (.goto (-76), 3) := by decide +kernel
theorem dX3_raiseLevel_90 : decode cX3_raiseLevel 90 = .ok (.iload_n 2, 1) := by decide +kernel
theorem dX3_raiseLevel_91 : decode cX3_raiseLevel 91 = .ok (.ireturn, 1) := by decide +kernel
set_option maxRecDepth 20000 in
theorem ggX3_choose_X3_chooseGroups : GoodIn wsX3_choose wsX3_chooseGroups := goodIn_r _ [11, 12, 13, 1, 23, 24, 25, 26, 27, 28] (by decide +kernel) (by decide +kernel)
set_option maxRecDepth 20000 in
theorem gX3_choose_X3_chooseGroups : GoodIn wsX3_choose (wsV RX3 50 RX3 yX3_chooseGroups wsX3_chooseGroups) := goodIn_app (goodIn_of _ (by decide +kernel)) ggX3_choose_X3_chooseGroups
set_option maxRecDepth 20000 in
theorem ggX3_choose_X3_chooseShortest : GoodIn wsX3_choose wsX3_chooseShortest := goodIn_r _ [17, 13, 1, 23, 24, 25, 26, 27, 28] (by decide +kernel) (by decide +kernel)
set_option maxRecDepth 20000 in
theorem gX3_choose_X3_chooseShortest : GoodIn wsX3_choose (wsV RX3 54 RX3 yX3_chooseShortest wsX3_chooseShortest) := goodIn_app (goodIn_of _ (by decide +kernel)) ggX3_choose_X3_chooseShortest
set_option maxRecDepth 20000 in
theorem ggX3_choose_X3_chooseHeads : GoodIn wsX3_choose wsX3_chooseHeads := goodIn_r _ [21, 12, 22, 13, 1, 23, 24, 25, 26, 27, 28] (by decide +kernel) (by decide +kernel)
set_option maxRecDepth 20000 in
theorem gX3_choose_X3_chooseHeads : GoodIn wsX3_choose (wsV RX3 58 RX3 yX3_chooseHeads wsX3_chooseHeads) := goodIn_app (goodIn_of _ (by decide +kernel)) ggX3_choose_X3_chooseHeads
theorem dX3_choose_0 : decode cX3_choose 0 = .ok (.iconst 0, 1) := by decide +kernel
theorem dX3_choose_1 : decode cX3_choose 1 = .ok (.istore_n 3, 1) := by decide +kernel
theorem dX3_choose_2 : decode cX3_choose 2 = .ok (.iload_n 3, 1) := by decide +kernel
theorem dX3_choose_3 : decode cX3_choose 3 = .ok (.sipush 200, 3) := by decide +kernel
theorem dX3_choose_6 : decode cX3_choose 6 = .ok (.if_icmp .ge 16, 3) := by decide +kernel
theorem dX3_choose_9 : decode cX3_choose 9 = .ok (.aload_n 0, 1) := by decide +kernel
theorem dX3_choose_10 : decode cX3_choose 10 = .ok (.getfield 9, 3) := by decide +kernel
theorem dX3_choose_13 : decode cX3_choose 13 = .ok (.iload_n 3, 1) := by decide +kernel
theorem dX3_choose_14 : decode cX3_choose 14 = .ok (.iconst (-1), 1) := by decide +kernel
theorem dX3_choose_15 : decode cX3_choose 15 = .ok (.iastore, 1) := by decide +kernel
theorem dX3_choose_16 : decode cX3_choose 16 = .ok (.iinc 3 1, 3) := by decide +kernel
theorem dX3_choose_19 : decode cX3_choose 19 = .ok (.goto (-17), 3) := by decide +kernel
theorem dX3_choose_22 : decode cX3_choose 22 = .ok (.iload_n 2, 1) := by decide +kernel
theorem dX3_choose_23 : decode cX3_choose 23 = .ok (.sipush 200, 3) := by decide +kernel
theorem dX3_choose_26 : decode cX3_choose 26 = .ok (.aload_n 1, 1) := by decide +kernel
theorem dX3_choose_27 : decode cX3_choose 27 = .ok (.arraylength, 1) := by decide +kernel
theorem dX3_choose_28 : decode cX3_choose 28 = .ok (.invokestatic 37, 3) := by decide +kernel
theorem dX3_choose_31 : decode cX3_choose 31 = .ok (.invokestatic 37, 3) := by decide +kernel
theorem dX3_choose_34 : decode cX3_choose 34 = .ok (.istore_n 3, 1) := by decide +kernel
theorem dX3_choose_35 : decode cX3_choose 35 = .ok (.aload_n 0, 1) := by decide +kernel
theorem dX3_choose_36 : decode cX3_choose 36 = .ok (.getfield 18, 3) := by decide +kernel
theorem dX3_choose_39 : decode cX3_choose 39 = .ok (.ifCond .ne 11, 3) := by decide +kernel
theorem dX3_choose_42 : decode cX3_choose 42 = .ok (.aload_n 0, 1) := by decide +kernel
theorem dX3_choose_43 : decode cX3_choose 43 = .ok (.iload_n 3, 1) := by decide +kernel
theorem dX3_choose_44 : decode cX3_choose 44 = .ok (.invokevirtual 50, 3) := by decide +kernel
theorem dX3_choose_47 : decode cX3_choose 47 = .ok (.goto 25, 3) := by decide +kernel
theorem dX3_choose_50 : decode cX3_choose 50 = .ok (.aload_n 0, 1) := by decide +kernel
theorem dX3_choose_51 : decode cX3_choose 51 = .ok (.getfield 18, 3) := by decide +kernel
theorem dX3_choose_54 : decode cX3_choose 54 = .ok (.iconst 1, 1) := by decide +kernel
theorem dX3_choose_55 : decode cX3_choose 55 = .ok (.if_icmp .ne 12, 3) := by decide +kernel
theorem dX3_choose_58 : decode cX3_choose 58 = .ok (.aload_n 0, 1) := by decide +kernel
theorem dX3_choose_59 : decode cX3_choose 59 = .ok (.aload_n 1, 1) := by decide +kernel
theorem dX3_choose_60 : decode cX3_choose 60 = .ok (.iload_n 3, 1) := by decide +kernel
theorem dX3_choose_61 : decode cX3_choose 61 = .ok (.invokevirtual 54, 3) := by decide +kernel
theorem dX3_choose_64 : decode cX3_choose 64 = .ok (.goto 8, 3) := by decide +kernel
theorem dX3_choose_67 : decode cX3_choose 67 = .ok (.aload_n 0, 1) := by decide +kernel
theorem dX3_choose_68 : decode cX3_choose 68 = .ok (.iload_n 3, 1) := by decide +kernel
theorem dX3_choose_69 : decode cX3_choose 69 = .ok (.invokevirtual 58, 3) := by decide +kernel
theorem dX3_choose_72 : decode cX3_choose 72 = .ok (.return_, 1) := by decide +kernel
theorem dX3_chooseGroups_0 : decode cX3_chooseGroups 0 = .ok (.aload_n 0, 1) := by decide +kernel
theorem dX3_chooseGroups_1 : decode cX3_chooseGroups 1 = .ok (.getfield 22, 3) := by decide +kernel
theorem dX3_chooseGroups_4 : decode cX3_chooseGroups 4 = .ok (.iconst 2, 1) := by decide +kernel
theorem dX3_chooseGroups_5 : decode cX3_chooseGroups 5 = .ok (.if_icmp .ge 4, 3) := by decide +kernel
theorem dX3_chooseGroups_8 : decode cX3_chooseGroups 8 = .ok (.return_, 1) := by decide +kernel
theorem dX3_chooseGroups_9 : decode cX3_chooseGroups 9 = .ok (.aload_n 0, 1) := by decide +kernel
theorem dX3_chooseGroups_10 : decode cX3_chooseGroups 10 = .ok (.iload_n 1, 1) := by decide +kernel
theorem dX3_chooseGroups_11 : decode cX3_chooseGroups 11 = .ok (.aload_n 0, 1) := by decide +kernel
theorem dX3_chooseGroups_12 : decode cX3_chooseGroups 12 = .ok (.getfield 22, 3) := by decide +kernel
theorem dX3_chooseGroups_15 : decode cX3_chooseGroups 15 = .ok (.iadd, 1) := by decide +kernel
theorem dX3_chooseGroups_16 : decode cX3_chooseGroups 16 = .ok (.iconst 2, 1) := by decide +kernel
theorem dX3_chooseGroups_17 : decode cX3_chooseGroups 17 = .ok (.isub, 1) := by decide +kernel
theorem dX3_chooseGroups_18 : decode cX3_chooseGroups 18 = .ok (.aload_n 0, 1) := by decide +kernel
theorem dX3_chooseGroups_19 : decode cX3_chooseGroups 19 = .ok (.getfield 22, 3) := by decide +kernel
theorem dX3_chooseGroups_22 : decode cX3_chooseGroups 22 = .ok (.idiv, 1) := by decide +kernel
theorem dX3_chooseGroups_23 : decode cX3_chooseGroups 23 = .ok (.putfield 25, 3) := by decide +kernel
theorem dX3_chooseGroups_26 : decode cX3_chooseGroups 26 = .ok (.iconst 0, 1) := by decide +kernel
theorem dX3_chooseGroups_27 : decode cX3_chooseGroups 27 = .ok (.istore_n 2, 1) := by decide +kernel
theorem dX3_chooseGroups_28 : decode cX3_chooseGroups 28 = .ok (.iload_n 2, 1) := by decide +kernel
theorem dX3_chooseGroups_29 : decode cX3_chooseGroups 29 = .ok (.iload_n 1, 1) := by decide +kernel
theorem dX3_chooseGroups_30 : decode cX3_chooseGroups 30 = .ok (.if_icmp .ge 42, 3) := by decide +kernel
theorem dX3_chooseGroups_33 : decode cX3_chooseGroups 33 = .ok (.iload_n 2, 1) := by decide +kernel
theorem dX3_chooseGroups_34 : decode cX3_chooseGroups 34 = .ok (.sipush 200, 3) := by decide +kernel
theorem dX3_chooseGroups_37 : decode cX3_chooseGroups 37 = .ok (.if_icmp .ge 35, 3) := by decide +kernel
theorem dX3_chooseGroups_40 : decode cX3_chooseGroups 40 = .ok (.iload_n 2, 1) := by decide +kernel
theorem dX3_chooseGroups_41 : decode cX3_chooseGroups 41 = .ok (.aload_n 0, 1) := by decide +kernel
theorem dX3_chooseGroups_42 : decode cX3_chooseGroups 42 = .ok (.getfield 22, 3) := by decide +kernel
theorem dX3_chooseGroups_45 : decode cX3_chooseGroups 45 = .ok (.idiv, 1) := by decide +kernel
theorem dX3_chooseGroups_46 : decode cX3_chooseGroups 46 = .ok (.istore_n 3, 1) := by decide +kernel
theorem dX3_chooseGroups_47 : decode cX3_chooseGroups 47 = .ok (.aload_n 0, 1) := by decide +kernel
theorem dX3_chooseGroups_48 : decode cX3_chooseGroups 48 = .ok (.getfield 9, 3) := by decide +kernel
theorem dX3_chooseGroups_51 : decode cX3_chooseGroups 51 = .ok (.iload_n 2, 1) := by decide +kernel
theorem dX3_chooseGroups_52 : decode cX3_chooseGroups 52 = .ok (.iload_n 3, 1) := by decide +kernel
theorem dX3_chooseGroups_53 : decode cX3_chooseGroups 53 = .ok (.aload_n 0, 1) := by decide +kernel
theorem dX3_chooseGroups_54 : decode cX3_chooseGroups 54 = .ok (.getfield 25, 3) := by decide +kernel
theorem dX3_chooseGroups_57 : decode cX3_chooseGroups 57 = .ok (.if_icmp .ge 7, 3) := by decide +kernel
theorem dX3_chooseGroups_60 : decode cX3_chooseGroups 60 = .ok (.iload_n 3, 1) := by decide +kernel
theorem dX3_chooseGroups_61 : decode cX3_chooseGroups 61 = .ok (.goto 4, 3) := by decide +kernel
theorem dX3_chooseGroups_64 : decode cX3_chooseGroups 64 = .ok (.iconst (-1), 1) := by decide +kernel
theorem dX3_chooseGroups_65 : decode cX3_chooseGroups 65 = .ok (.iastore, 1) := by decide +kernel
theorem dX3_chooseGroups_66 : decode cX3_chooseGroups 66 = .ok (.iinc 2 1, 3) := by decide +kernel
theorem dX3_chooseGroups_69 : decode cX3_chooseGroups 69 = .ok (.goto (-41), 3) := by decide +kernel
theorem dX3_chooseGroups_72 : decode cX3_chooseGroups 72 = .ok (.return_, 1) := by decide +kernel
theorem dX3_chooseShortest_0 : decode cX3_chooseShortest 0 = .ok (.aload_n 0, 1) := by decide +kernel
theorem dX3_chooseShortest_1 : decode cX3_chooseShortest 1 = .ok (.iconst 1, 1) := by decide +kernel
theorem dX3_chooseShortest_2 : decode cX3_chooseShortest 2 = .ok (.putfield 25, 3) := by decide +kernel
theorem dX3_chooseShortest_5 : decode cX3_chooseShortest 5 = .ok (.iconst 0, 1) := by decide +kernel
theorem dX3_chooseShortest_6 : decode cX3_chooseShortest 6 = .ok (.istore_n 3, 1) := by decide +kernel
theorem dX3_chooseShortest_7 : decode cX3_chooseShortest 7 = .ok (.iload_n 3, 1) := by decide +kernel
theorem dX3_chooseShortest_8 : decode cX3_chooseShortest 8 = .ok (.iconst 2, 1) := by decide +kernel
theorem dX3_chooseShortest_9 : decode cX3_chooseShortest 9 = .ok (.if_icmp .ge 87, 3) := by decide +kernel
theorem dX3_chooseShortest_12 : decode cX3_chooseShortest 12 = .ok (.iconst (-1), 1) := by decide +kernel
theorem dX3_chooseShortest_13 : decode cX3_chooseShortest 13 = .ok (.istore 4, 2) := by decide +kernel
theorem dX3_chooseShortest_15 : decode cX3_chooseShortest 15 = .ok (.iconst 0, 1) := by decide +kernel
theorem dX3_chooseShortest_16 : decode cX3_chooseShortest 16 = .ok (.istore 5, 2) := by decide +kernel
theorem dX3_chooseShortest_18 : decode cX3_chooseShortest 18 = .ok (.iload 5, 2) := by decide +kernel
theorem dX3_chooseShortest_20 : decode cX3_chooseShortest 20 = .ok (.iload_n 2, 1) := by decide +kernel
theorem dX3_chooseShortest_21 : decode cX3_chooseShortest 21 = .ok (.if_icmp .ge 56, 3) := by decide +kernel
theorem dX3_chooseShortest_24 : decode cX3_chooseShortest 24 = .ok (.iload 5, 2) := by decide +kernel
theorem dX3_chooseShortest_26 : decode cX3_chooseShortest 26 = .ok (.sipush 200, 3) := by decide +kernel
theorem dX3_chooseShortest_29 : decode cX3_chooseShortest 29 = .ok (.if_icmp .ge 48, 3) := by decide +kernel
theorem dX3_chooseShortest_32 : decode cX3_chooseShortest 32 = .ok (.iload 5, 2) := by decide +kernel
theorem dX3_chooseShortest_34 : decode cX3_chooseShortest 34 = .ok (.aload_n 1, 1) := by decide +kernel
theorem dX3_chooseShortest_35 : decode cX3_chooseShortest 35 = .ok (.arraylength, 1) := by decide +kernel
theorem dX3_chooseShortest_36 : decode cX3_chooseShortest 36 = .ok (.if_icmp .ge 41, 3) := by decide +kernel
theorem dX3_chooseShortest_39 : decode cX3_chooseShortest 39 = .ok (.aload_n 0, 1) := by decide +kernel
theorem dX3_chooseShortest_40 : decode cX3_chooseShortest 40 = .ok (.getfield 9, 3) := by decide +kernel
theorem dX3_chooseShortest_43 : decode cX3_chooseShortest 43 = .ok (.iload 5, 2) := by decide +kernel
theorem dX3_chooseShortest_45 : decode cX3_chooseShortest 45 = .ok (.iaload, 1) := by decide +kernel
theorem dX3_chooseShortest_46 : decode cX3_chooseShortest 46 = .ok (.iconst (-1), 1) := by decide +kernel
theorem dX3_chooseShortest_47 : decode cX3_chooseShortest 47 = .ok (.if_icmp .ne 24, 3) := by decide +kernel
theorem dX3_chooseShortest_50 : decode cX3_chooseShortest 50 = .ok (.iload 4, 2) := by decide +kernel
theorem dX3_chooseShortest_52 : decode cX3_chooseShortest 52 = .ok (.iconst (-1), 1) := by decide +kernel
theorem dX3_chooseShortest_53 : decode cX3_chooseShortest 53 = .ok (.if_icmp .eq 14, 3) := by decide +kernel
theorem dX3_chooseShortest_56 : decode cX3_chooseShortest 56 = .ok (.aload_n 1, 1) := by decide +kernel
theorem dX3_chooseShortest_57 : decode cX3_chooseShortest 57 = .ok (.iload 5, 2) := by decide +kernel
theorem dX3_chooseShortest_59 : decode cX3_chooseShortest 59 = .ok (.iaload, 1) := by decide +kernel
theorem dX3_chooseShortest_60 : decode cX3_chooseShortest 60 = .ok (.aload_n 1, 1) := by decide +kernel
theorem dX3_chooseShortest_61 : decode cX3_chooseShortest 61 = .ok (.iload 4, 2) := by decide +kernel
theorem dX3_chooseShortest_63 : decode cX3_chooseShortest 63 = .ok (.iaload, 1) := by decide +kernel
theorem dX3_chooseShortest_64 : decode cX3_chooseShortest 64 = .ok (.if_icmp .ge 7, 3) := by decide +kernel
theorem dX3_chooseShortest_67 : decode cX3_chooseShortest 67 = .ok (.iload 5, 2) := by decide +kernel
theorem dX3_chooseShortest_69 : decode cX3_chooseShortest 69 = .ok (.istore 4, 2) := by decide +kernel
theorem dX3_chooseShortest_71 : decode cX3_chooseShortest 71 = .ok (.iinc 5 1, 3) := by decide +kernel
theorem dX3_chooseShortest_74 : decode cX3_chooseShortest 74 = .ok (.goto (-56), 3) := by decide +kernel
theorem dX3_chooseShortest_77 : decode cX3_chooseShortest 77 = .ok (.iload 4, 2) := by decide +kernel
theorem dX3_chooseShortest_79 : decode cX3_chooseShortest 79 = .ok (.ifCond .lt 11, 3) := by decide +kernel
theorem dX3_chooseShortest_82 : decode cX3_chooseShortest 82 = .ok (.aload_n 0, 1) := by decide +kernel
theorem dX3_chooseShortest_83 : decode cX3_chooseShortest 83 = .ok (.getfield 9, 3) := by decide +kernel
theorem dX3_chooseShortest_86 : decode cX3_chooseShortest 86 = .ok (.iload 4, 2) := by decide +kernel
theorem dX3_chooseShortest_88 : decode cX3_chooseShortest 88 = .ok (.iconst 0, 1) := by decide +kernel
theorem dX3_chooseShortest_89 : decode cX3_chooseShortest 89 = .ok (.iastore, 1) := by decide +kernel
theorem dX3_chooseShortest_90 : decode cX3_chooseShortest 90 = .ok (.iinc 3 1, 3) := by decide +kernel
theorem dX3_chooseShortest_93 : decode cX3_chooseShortest 93 = .ok (.goto (-86), 3) := by decide +kernel
theorem dX3_chooseShortest_96 : decode cX3_chooseShortest 96 = .ok (.return_, 1) := by decide +kernel
theorem dX3_chooseHeads_0 : decode cX3_chooseHeads 0 = .ok (.aload_n 0, 1) := by decide +kernel
theorem dX3_chooseHeads_1 : decode cX3_chooseHeads 1 = .ok (.getfield 22, 3) := by decide +kernel
theorem dX3_chooseHeads_4 : decode cX3_chooseHeads 4 = .ok (.iconst 1, 1) := by decide +kernel
theorem dX3_chooseHeads_5 : decode cX3_chooseHeads 5 = .ok (.isub, 1) := by decide +kernel
theorem dX3_chooseHeads_6 : decode cX3_chooseHeads 6 = .ok (.istore_n 2, 1) := by decide +kernel
theorem dX3_chooseHeads_7 : decode cX3_chooseHeads 7 = .ok (.aload_n 0, 1) := by decide +kernel
theorem dX3_chooseHeads_8 : decode cX3_chooseHeads 8 = .ok (.iload_n 2, 1) := by decide +kernel
theorem dX3_chooseHeads_9 : decode cX3_chooseHeads 9 = .ok (.ifCond .lt 18, 3) := by decide +kernel
theorem dX3_chooseHeads_12 : decode cX3_chooseHeads 12 = .ok (.iload_n 2, 1) := by decide +kernel
theorem dX3_chooseHeads_13 : decode cX3_chooseHeads 13 = .ok (.bipush 6, 2) := by decide +kernel
theorem dX3_chooseHeads_15 : decode cX3_chooseHeads 15 = .ok (.if_icmp .ge 12, 3) := by decide +kernel
theorem dX3_chooseHeads_18 : decode cX3_chooseHeads 18 = .ok (.aload_n 0, 1) := by decide +kernel
theorem dX3_chooseHeads_19 : decode cX3_chooseHeads 19 = .ok (.getfield 15, 3) := by decide +kernel
theorem dX3_chooseHeads_22 : decode cX3_chooseHeads 22 = .ok (.iload_n 2, 1) := by decide +kernel
theorem dX3_chooseHeads_23 : decode cX3_chooseHeads 23 = .ok (.iaload, 1) := by decide +kernel
theorem dX3_chooseHeads_24 : decode cX3_chooseHeads 24 = .ok (.goto 4, 3) := by decide +kernel
theorem dX3_chooseHeads_27 : decode cX3_chooseHeads 27 = .ok (.iconst 0, 1) := by decide +kernel
theorem dX3_chooseHeads_28 : decode cX3_chooseHeads 28 = .ok (.putfield 25, 3) := by decide +kernel
theorem dX3_chooseHeads_31 : decode cX3_chooseHeads 31 = .ok (.iconst 0, 1) := by decide +kernel
theorem dX3_chooseHeads_32 : decode cX3_chooseHeads 32 = .ok (.istore_n 3, 1) := by decide +kernel
theorem dX3_chooseHeads_33 : decode cX3_chooseHeads 33 = .ok (.iconst 0, 1) := by decide +kernel
theorem dX3_chooseHeads_34 : decode cX3_chooseHeads 34 = .ok (.istore 4, 2) := by decide +kernel
theorem dX3_chooseHeads_36 : decode cX3_chooseHeads 36 = .ok (.iload 4, 2) := by decide +kernel
theorem dX3_chooseHeads_38 : decode cX3_chooseHeads 38 = .ok (.aload_n 0, 1) := by decide +kernel
theorem dX3_chooseHeads_39 : decode cX3_chooseHeads 39 = .ok (.getfield 22, 3) := by decide +kernel
theorem dX3_chooseHeads_42 : decode cX3_chooseHeads 42 = .ok (.if_icmp .ge 73, 3) := by decide +kernel
theorem dX3_chooseHeads_45 : decode cX3_chooseHeads 45 = .ok (.iload 4, 2) := by decide +kernel
theorem dX3_chooseHeads_47 : decode cX3_chooseHeads 47 = .ok (.bipush 6, 2) := by decide +kernel
theorem dX3_chooseHeads_49 : decode cX3_chooseHeads 49 = .ok (.if_icmp .ge 66, 3) := by decide +kernel
theorem dX3_chooseHeads_52 : decode cX3_chooseHeads 52 = .ok (.iconst 0, 1) := by decide +kernel
theorem dX3_chooseHeads_53 : decode cX3_chooseHeads 53 = .ok (.istore 5, 2) := by decide +kernel
theorem dX3_chooseHeads_55 : decode cX3_chooseHeads 55 = .ok (.iload 5, 2) := by decide +kernel
theorem dX3_chooseHeads_57 : decode cX3_chooseHeads 57 = .ok (.aload_n 0, 1) := by decide +kernel
theorem dX3_chooseHeads_58 : decode cX3_chooseHeads 58 = .ok (.getfield 15, 3) := by decide +kernel
theorem dX3_chooseHeads_61 : decode cX3_chooseHeads 61 = .ok (.iload 4, 2) := by decide +kernel
theorem dX3_chooseHeads_63 : decode cX3_chooseHeads 63 = .ok (.iaload, 1) := by decide +kernel
theorem dX3_chooseHeads_64 : decode cX3_chooseHeads 64 = .ok (.if_icmp .ge 45, 3) := by decide +kernel
theorem dX3_chooseHeads_67 : decode cX3_chooseHeads 67 = .ok (.iload_n 3, 1) := by decide +kernel
theorem dX3_chooseHeads_68 : decode cX3_chooseHeads 68 = .ok (.iload_n 1, 1) := by decide +kernel
theorem dX3_chooseHeads_69 : decode cX3_chooseHeads 69 = .ok (.if_icmp .ge 40, 3) := by decide +kernel
theorem dX3_chooseHeads_72 : decode cX3_chooseHeads 72 = .ok (.iload_n 3, 1) := by decide +kernel
theorem dX3_chooseHeads_73 : decode cX3_chooseHeads 73 = .ok (.sipush 200, 3) := by decide +kernel
theorem dX3_chooseHeads_76 : decode cX3_chooseHeads 76 = .ok (.if_icmp .ge 33, 3) := by decide +kernel
theorem dX3_chooseHeads_79 : decode cX3_chooseHeads 79 = .ok (.aload_n 0, 1) := by decide +kernel
theorem dX3_chooseHeads_80 : decode cX3_chooseHeads 80 = .ok (.getfield 9, 3) := by decide +kernel
theorem dX3_chooseHeads_83 : decode cX3_chooseHeads 83 = .ok (.iload_n 3, 1) := by decide +kernel
theorem dX3_chooseHeads_84 : decode cX3_chooseHeads 84 = .ok (.iload 5, 2) := by decide +kernel
theorem dX3_chooseHeads_86 : decode cX3_chooseHeads 86 = .ok (.aload_n 0, 1) := by decide +kernel
theorem dX3_chooseHeads_87 : decode cX3_chooseHeads 87 = .ok (.getfield 25, 3) := by decide +kernel
theorem dX3_chooseHeads_90 : decode cX3_chooseHeads 90 = .ok (.if_icmp .ge 8, 3) := by decide +kernel
theorem dX3_chooseHeads_93 : decode cX3_chooseHeads 93 = .ok (.iload 5, 2) := by decide +kernel
theorem dX3_chooseHeads_95 : decode cX3_chooseHeads 95 = .ok (.goto 4, 3) := by decide +kernel
theorem dX3_chooseHeads_98 : decode cX3_chooseHeads 98 = .ok (.iconst (-1), 1) := by decide +kernel
theorem dX3_chooseHeads_99 : decode cX3_chooseHeads 99 = .ok (.iastore, 1) := by decide +kernel
theorem dX3_chooseHeads_100 : decode cX3_chooseHeads 100 = .ok (.iinc 3 1, 3) := by decide +kernel
theorem dX3_chooseHeads_103 : decode cX3_chooseHeads 103 = .ok (.iinc 5 1, 3) := by decide +kernel
theorem dX3_chooseHeads_106 : decode cX3_chooseHeads 106 = .ok (.goto (-51), 3) := by decide +kernel
theorem dX3_chooseHeads_109 : decode cX3_chooseHeads 109 = .ok (.iinc 4 1, 3) := by decide +kernel
theorem dX3_chooseHeads_112 : decode cX3_chooseHeads 112 = .ok (.goto (-76), 3) := by decide +kernel
theorem dX3_chooseHeads_115 : decode cX3_chooseHeads 115 = .ok (.return_, 1) := by decide +kernel
theorem dX3_close_0 : decode cX3_close 0 = .ok (.aload_n 0, 1) := by decide +kernel
theorem dX3_close_1 : decode cX3_close 1 = .ok (.getfield 22, 3) := by decide +kernel
theorem dX3_close_4 : decode cX3_close 4 = .ok (.bipush 6, 2) := by decide +kernel
theorem dX3_close_6 : decode cX3_close 6 = .ok (.invokestatic 37, 3) := by decide +kernel
theorem dX3_close_9 : decode cX3_close 9 = .ok (.iconst 1, 1) := by decide +kernel
theorem dX3_close_10 : decode cX3_close 10 = .ok (.isub, 1) := by decide +kernel
theorem dX3_close_11 : decode cX3_close 11 = .ok (.istore_n 1, 1) := by decide +kernel
theorem dX3_close_12 : decode cX3_close 12 = .ok (.iload_n 1, 1) := by decide +kernel
theorem dX3_close_13 : decode cX3_close 13 = .ok (.ifCond .le 28, 3) := by decide +kernel
theorem dX3_close_16 : decode cX3_close 16 = .ok (.aload_n 0, 1) := by decide +kernel
theorem dX3_close_17 : decode cX3_close 17 = .ok (.getfield 15, 3) := by decide +kernel
theorem dX3_close_20 : decode cX3_close 20 = .ok (.iload_n 1, 1) := by decide +kernel
theorem dX3_close_21 : decode cX3_close 21 = .ok (.aload_n 0, 1) := by decide +kernel
theorem dX3_close_22 : decode cX3_close 22 = .ok (.getfield 15, 3) := by decide +kernel
theorem dX3_close_25 : decode cX3_close 25 = .ok (.iload_n 1, 1) := by decide +kernel
theorem dX3_close_26 : decode cX3_close 26 = .ok (.iconst 1, 1) := by decide +kernel
theorem dX3_close_27 : decode cX3_close 27 = .ok (.isub, 1) := by decide +kernel
theorem dX3_close_28 : decode cX3_close 28 = .ok (.iaload, 1) := by decide +kernel
theorem dX3_close_29 : decode cX3_close 29 = .ok (.aload_n 0, 1) := by decide +kernel
theorem dX3_close_30 : decode cX3_close 30 = .ok (.getfield 25, 3) := by decide +kernel
theorem dX3_close_33 : decode cX3_close 33 = .ok (.isub, 1) := by decide +kernel
theorem dX3_close_34 : decode cX3_close 34 = .ok (.iastore, 1) := by decide +kernel
theorem dX3_close_35 : decode cX3_close 35 = .ok (.iinc 1 (-1), 3) := by decide +kernel
theorem dX3_close_38 : decode cX3_close 38 = .ok (.goto (-26), 3) := by decide +kernel
theorem dX3_close_41 : decode cX3_close 41 = .ok (.aload_n 0, 1) := by decide +kernel
theorem dX3_close_42 : decode cX3_close 42 = .ok (.getfield 15, 3) := by decide +kernel
theorem dX3_close_45 : decode cX3_close 45 = .ok (.iconst 0, 1) := by decide +kernel
theorem dX3_close_46 : decode cX3_close 46 = .ok (.aload_n 0, 1) := by decide +kernel
theorem dX3_close_47 : decode cX3_close 47 = .ok (.getfield 25, 3) := by decide +kernel
theorem dX3_close_50 : decode cX3_close 50 = .ok (.iastore, 1) := by decide +kernel
theorem dX3_close_51 : decode cX3_close 51 = .ok (.return_, 1) := by decide +kernel
theorem dX3_mergeOf_0 : decode cX3_mergeOf 0 = .ok (.iload_n 1, 1) := by decide +kernel
theorem dX3_mergeOf_1 : decode cX3_mergeOf 1 = .ok (.ifCond .lt 19, 3) := by decide +kernel
theorem dX3_mergeOf_4 : decode cX3_mergeOf 4 = .ok (.iload_n 1, 1) := by decide +kernel
theorem dX3_mergeOf_5 : decode cX3_mergeOf 5 = .ok (.sipush 200, 3) := by decide +kernel
theorem dX3_mergeOf_8 : decode cX3_mergeOf 8 = .ok (.if_icmp .ge 12, 3) := by decide +kernel
theorem dX3_mergeOf_11 : decode cX3_mergeOf 11 = .ok (.aload_n 0, 1) := by decide +kernel
theorem dX3_mergeOf_12 : decode cX3_mergeOf 12 = .ok (.getfield 9, 3) := by decide +kernel
theorem dX3_mergeOf_15 : decode cX3_mergeOf 15 = .ok (.iload_n 1, 1) := by decide +kernel
theorem dX3_mergeOf_16 : decode cX3_mergeOf 16 = .ok (.iaload, 1) := by decide +kernel
theorem dX3_mergeOf_17 : decode cX3_mergeOf 17 = .ok (.goto 4, 3) := by decide +kernel
theorem dX3_mergeOf_20 : decode cX3_mergeOf 20 = .ok (.iconst (-1), 1) := by decide +kernel
theorem dX3_mergeOf_21 : decode cX3_mergeOf 21 = .ok (.ireturn, 1) := by decide +kernel
theorem dX3_putsNewRunsFirst_0 : decode cX3_putsNewRunsFirst 0 = .ok (.aload_n 0, 1) := by decide +kernel
theorem dX3_putsNewRunsFirst_1 : decode cX3_putsNewRunsFirst 1 = .ok (.getfield 18, 3) := by decide +kernel
theorem dX3_putsNewRunsFirst_4 : decode cX3_putsNewRunsFirst 4 = .ok (.iconst 1, 1) := by decide +kernel
theorem dX3_putsNewRunsFirst_5 : decode cX3_putsNewRunsFirst 5 = .ok (.if_icmp .eq 7, 3) := by decide +kernel
theorem dX3_putsNewRunsFirst_8 : decode cX3_putsNewRunsFirst 8 = .ok (.iconst 1, 1) := by decide +kernel
theorem dX3_putsNewRunsFirst_9 : decode cX3_putsNewRunsFirst 9 = .ok (.goto 4, 3) := by decide +kernel
theorem dX3_putsNewRunsFirst_12 : decode cX3_putsNewRunsFirst 12 = .ok (.iconst 0, 1) := by decide +kernel
theorem dX3_putsNewRunsFirst_13 : decode cX3_putsNewRunsFirst 13 = .ok (.ireturn, 1) := by decide +kernel
set_option maxRecDepth 20000 in
theorem ggX4_init_X3_init : GoodIn wsX4_init wsX3_init := goodIn_r _ [17, 18, 2, 3, 8, 19, 20, 21, 22, 23, 24, 25, 26, 27, 28, 29, 30] (by decide +kernel) (by decide +kernel)
set_option maxRecDepth 20000 in
theorem gX4_init_X3_init_n11 : GoodIn wsX4_init (wsX3_init) := ggX4_init_X3_init
theorem dX4_init_0 : decode cX4_init 0 = .ok (.aload_n 0, 1) := by decide +kernel
theorem dX4_init_1 : decode cX4_init 1 = .ok (.invokespecial 3, 3) := by decide +kernel
theorem dX4_init_4 : decode cX4_init 4 = .ok (.aload_n 0, 1) := by decide +kernel
theorem dX4_init_5 : decode cX4_init 5 = .ok (.new 9, 3) := by decide +kernel
theorem dX4_init_8 : decode cX4_init 8 = .ok (.dup, 1) := by decide +kernel
theorem dX4_init_9 : decode cX4_init 9 = .ok (.invokespecial 11, 3) := by decide +kernel
theorem dX4_init_12 : decode cX4_init 12 = .ok (.putfield 12, 3) := by decide +kernel
theorem dX4_init_15 : decode cX4_init 15 = .ok (.aload_n 0, 1) := by decide +kernel
theorem dX4_init_16 : decode cX4_init 16 = .ok (.sipush 200, 3) := by decide +kernel
theorem dX4_init_19 : decode cX4_init 19 = .ok (.newarray .int, 2) := by decide +kernel
theorem dX4_init_21 : decode cX4_init 21 = .ok (.putfield 18, 3) := by decide +kernel
theorem dX4_init_24 : decode cX4_init 24 = .ok (.aload_n 0, 1) := by decide +kernel
theorem dX4_init_25 : decode cX4_init 25 = .ok (.sipush 200, 3) := by decide +kernel
theorem dX4_init_28 : decode cX4_init 28 = .ok (.newarray .int, 2) := by decide +kernel
theorem dX4_init_30 : decode cX4_init 30 = .ok (.putfield 22, 3) := by decide +kernel
theorem dX4_init_33 : decode cX4_init 33 = .ok (.aload_n 0, 1) := by decide +kernel
theorem dX4_init_34 : decode cX4_init 34 = .ok (.iconst 0, 1) := by decide +kernel
theorem dX4_init_35 : decode cX4_init 35 = .ok (.putfield 25, 3) := by decide +kernel
theorem dX4_init_38 : decode cX4_init 38 = .ok (.aload_n 0, 1) := by decide +kernel
theorem dX4_init_39 : decode cX4_init 39 = .ok (.iconst 0, 1) := by decide +kernel
theorem dX4_init_40 : decode cX4_init 40 = .ok (.putfield 29, 3) := by decide +kernel
theorem dX4_init_43 : decode cX4_init 43 = .ok (.aload_n 0, 1) := by decide +kernel
theorem dX4_init_44 : decode cX4_init 44 = .ok (.iconst 0, 1) := by decide +kernel
theorem dX4_init_45 : decode cX4_init 45 = .ok (.putfield 32, 3) := by decide +kernel
theorem dX4_init_48 : decode cX4_init 48 = .ok (.aload_n 0, 1) := by decide +kernel
theorem dX4_init_49 : decode cX4_init 49 = .ok (.iconst 0, 1) := by decide +kernel
theorem dX4_init_50 : decode cX4_init 50 = .ok (.putfield 35, 3) := by decide +kernel
theorem dX4_init_53 : decode cX4_init 53 = .ok (.aload_n 0, 1) := by decide +kernel
theorem dX4_init_54 : decode cX4_init 54 = .ok (.iconst 0, 1) := by decide +kernel
theorem dX4_init_55 : decode cX4_init 55 = .ok (.putfield 38, 3) := by decide +kernel
theorem dX4_init_58 : decode cX4_init 58 = .ok (.return_, 1) := by decide +kernel
set_option maxRecDepth 20000 in
theorem ggX4_tell_X3_arrange : GoodIn wsX4_tell wsX3_arrange := goodIn_r _ [10, 11, 12, 13, 14, 15, 16, 17, 18, 19, 20, 21, 22, 23, 24, 25, 9, 26, 101, 102, 103, 104, 105, 106, 107, 108, 109, 110, 111] (by decide +kernel) (by decide +kernel)
set_option maxRecDepth 20000 in
theorem gX4_tell_X3_arrange : GoodIn wsX4_tell (wsV RX4 44 RX3 yX3_arrange wsX3_arrange) := goodIn_app (goodIn_of _ (by decide +kernel)) ggX4_tell_X3_arrange
set_option maxRecDepth 20000 in
theorem ggX4_tell_X4_takeLengths : GoodIn wsX4_tell wsX4_takeLengths := goodIn_r _ [31, 32, 13, 14, 15, 5, 33, 34, 35, 36, 37, 38, 39, 40, 88, 89, 90, 91, 92, 93, 94, 95, 96, 97, 98, 99, 100] (by decide +kernel) (by decide +kernel)
set_option maxRecDepth 20000 in
theorem gX4_tell_X4_takeLengths : GoodIn wsX4_tell (wsV RX4 48 RX4 yX4_takeLengths wsX4_takeLengths) := goodIn_app (goodIn_of _ (by decide +kernel)) ggX4_tell_X4_takeLengths
set_option maxRecDepth 20000 in
theorem ggX4_tell_X4_planPass : GoodIn wsX4_tell wsX4_planPass := goodIn_r _ [44, 1, 33, 5, 45, 46, 47, 48, 49, 9, 50, 51, 12, 13, 14, 15, 11, 52, 53, 54, 55, 19, 21, 56, 57, 58, 59, 60, 61, 62, 63, 22, 64, 65, 66, 67, 68, 69, 70, 30, 71, 3, 4, 72, 73, 74, 75, 76, 77, 78, 79, 80, 81, 82, 83, 84, 85, 86, 87, 88, 89, 90, 91, 92, 93, 94, 95, 106, 107, 108, 109, 110, 111] (by decide +kernel) (by decide +kernel)
set_option maxRecDepth 20000 in
theorem gX4_tell_X4_planPass : GoodIn wsX4_tell (wsV RX4 52 RX4 yX4_planPass wsX4_planPass) := goodIn_app (goodIn_of _ (by decide +kernel)) ggX4_tell_X4_planPass
theorem dX4_tell_0 : decode cX4_tell 0 = .ok (.aload_n 0, 1) := by decide +kernel
theorem dX4_tell_1 : decode cX4_tell 1 = .ok (.aload_n 1, 1) := by decide +kernel
theorem dX4_tell_2 : decode cX4_tell 2 = .ok (.aload_n 0, 1) := by decide +kernel
theorem dX4_tell_3 : decode cX4_tell 3 = .ok (.getfield 12, 3) := by decide +kernel
theorem dX4_tell_6 : decode cX4_tell 6 = .ok (.aload_n 2, 1) := by decide +kernel
theorem dX4_tell_7 : decode cX4_tell 7 = .ok (.aload_n 1, 1) := by decide +kernel
theorem dX4_tell_8 : decode cX4_tell 8 = .ok (.getfield 41, 3) := by decide +kernel
theorem dX4_tell_11 : decode cX4_tell 11 = .ok (.invokevirtual 44, 3) := by decide +kernel
theorem dX4_tell_14 : decode cX4_tell 14 = .ok (.invokevirtual 48, 3) := by decide +kernel
theorem dX4_tell_17 : decode cX4_tell 17 = .ok (.aload_n 0, 1) := by decide +kernel
theorem dX4_tell_18 : decode cX4_tell 18 = .ok (.iconst 0, 1) := by decide +kernel
theorem dX4_tell_19 : decode cX4_tell 19 = .ok (.putfield 32, 3) := by decide +kernel
theorem dX4_tell_22 : decode cX4_tell 22 = .ok (.aload_n 0, 1) := by decide +kernel
theorem dX4_tell_23 : decode cX4_tell 23 = .ok (.iconst 0, 1) := by decide +kernel
theorem dX4_tell_24 : decode cX4_tell 24 = .ok (.putfield 35, 3) := by decide +kernel
theorem dX4_tell_27 : decode cX4_tell 27 = .ok (.aload_n 0, 1) := by decide +kernel
theorem dX4_tell_28 : decode cX4_tell 28 = .ok (.iconst 0, 1) := by decide +kernel
theorem dX4_tell_29 : decode cX4_tell 29 = .ok (.putfield 38, 3) := by decide +kernel
theorem dX4_tell_32 : decode cX4_tell 32 = .ok (.aload_n 0, 1) := by decide +kernel
theorem dX4_tell_33 : decode cX4_tell 33 = .ok (.getfield 25, 3) := by decide +kernel
theorem dX4_tell_36 : decode cX4_tell 36 = .ok (.iconst 1, 1) := by decide +kernel
theorem dX4_tell_37 : decode cX4_tell 37 = .ok (.if_icmp .le 30, 3) := by decide +kernel
theorem dX4_tell_40 : decode cX4_tell 40 = .ok (.aload_n 0, 1) := by decide +kernel
theorem dX4_tell_41 : decode cX4_tell 41 = .ok (.getfield 32, 3) := by decide +kernel
theorem dX4_tell_44 : decode cX4_tell 44 = .ok (.sipush 200, 3) := by decide +kernel
theorem dX4_tell_47 : decode cX4_tell 47 = .ok (.if_icmp .ge 20, 3) := by decide +kernel
theorem dX4_tell_50 : decode cX4_tell 50 = .ok (.aload_n 0, 1) := by decide +kernel
theorem dX4_tell_51 : decode cX4_tell 51 = .ok (.invokevirtual 52, 3) := by decide +kernel
theorem dX4_tell_54 : decode cX4_tell 54 = .ok (.aload_n 0, 1) := by decide +kernel
theorem dX4_tell_55 : decode cX4_tell 55 = .ok (.dup, 1) := by decide +kernel
theorem dX4_tell_56 : decode cX4_tell 56 = .ok (.getfield 32, 3) := by decide +kernel
theorem dX4_tell_59 : decode cX4_tell 59 = .ok (.iconst 1, 1) := by decide +kernel
theorem dX4_tell_60 : decode cX4_tell 60 = .ok (.iadd, 1) := by decide +kernel
theorem dX4_tell_61 : decode cX4_tell 61 = .ok (.putfield 32, 3) := by decide +kernel
theorem dX4_tell_64 : decode cX4_tell 64 = .ok (.goto (-32), 3) := by decide +kernel
theorem dX4_tell_67 : decode cX4_tell 67 = .ok (.return_, 1) := by decide +kernel
set_option maxRecDepth 20000 in
theorem ggX4_takeLengths_X7_lengthOf : GoodIn wsX4_takeLengths wsX7_lengthOf := goodIn_r _ [11, 12, 13, 22, 23, 24, 25, 26] (by decide +kernel) (by decide +kernel)
set_option maxRecDepth 20000 in
theorem gX4_takeLengths_X7_lengthOf : GoodIn wsX4_takeLengths (wsV RX4 61 RX7 yX7_lengthOf wsX7_lengthOf) := goodIn_app (goodIn_of _ (by decide +kernel)) ggX4_takeLengths_X7_lengthOf
theorem dX4_takeLengths_0 : decode cX4_takeLengths 0 = .ok (.aload_n 0, 1) := by decide +kernel
theorem dX4_takeLengths_1 : decode cX4_takeLengths 1 = .ok (.iload_n 2, 1) := by decide +kernel
theorem dX4_takeLengths_2 : decode cX4_takeLengths 2 = .ok (.sipush 200, 3) := by decide +kernel
theorem dX4_takeLengths_5 : decode cX4_takeLengths 5 = .ok (.invokestatic 55, 3) := by decide +kernel
theorem dX4_takeLengths_8 : decode cX4_takeLengths 8 = .ok (.putfield 25, 3) := by decide +kernel
theorem dX4_takeLengths_11 : decode cX4_takeLengths 11 = .ok (.iconst 0, 1) := by decide +kernel
theorem dX4_takeLengths_12 : decode cX4_takeLengths 12 = .ok (.istore_n 3, 1) := by decide +kernel
theorem dX4_takeLengths_13 : decode cX4_takeLengths 13 = .ok (.iload_n 3, 1) := by decide +kernel
theorem dX4_takeLengths_14 : decode cX4_takeLengths 14 = .ok (.aload_n 0, 1) := by decide +kernel
theorem dX4_takeLengths_15 : decode cX4_takeLengths 15 = .ok (.getfield 25, 3) := by decide +kernel
theorem dX4_takeLengths_18 : decode cX4_takeLengths 18 = .ok (.if_icmp .ge 20, 3) := by decide +kernel
theorem dX4_takeLengths_21 : decode cX4_takeLengths 21 = .ok (.aload_n 0, 1) := by decide +kernel
theorem dX4_takeLengths_22 : decode cX4_takeLengths 22 = .ok (.getfield 18, 3) := by decide +kernel
theorem dX4_takeLengths_25 : decode cX4_takeLengths 25 = .ok (.iload_n 3, 1) := by decide +kernel
theorem dX4_takeLengths_26 : decode cX4_takeLengths 26 = .ok (.aload_n 1, 1) := by decide +kernel
theorem dX4_takeLengths_27 : decode cX4_takeLengths 27 = .ok (.iload_n 3, 1) := by decide +kernel
theorem dX4_takeLengths_28 : decode cX4_takeLengths 28 = .ok (.invokevirtual 61, 3) := by decide +kernel
theorem dX4_takeLengths_31 : decode cX4_takeLengths 31 = .ok (.iastore, 1) := by decide +kernel
theorem dX4_takeLengths_32 : decode cX4_takeLengths 32 = .ok (.iinc 3 1, 3) := by decide +kernel
theorem dX4_takeLengths_35 : decode cX4_takeLengths 35 = .ok (.goto (-22), 3) := by decide +kernel
theorem dX4_takeLengths_38 : decode cX4_takeLengths 38 = .ok (.return_, 1) := by decide +kernel
set_option maxRecDepth 20000 in
theorem ggX4_planPass_X3_choose : GoodIn wsX4_planPass wsX3_choose := goodIn_r _ [10, 11, 12, 13, 14, 15, 16, 17, 18, 19, 9, 20, 21, 22, 23, 24, 25, 26, 27, 28, 29, 30, 31, 67, 68, 69, 70, 71, 72] (by decide +kernel) (by decide +kernel)
set_option maxRecDepth 20000 in
theorem gX4_planPass_X3_choose : GoodIn wsX4_planPass (wsV RX4 65 RX3 yX3_choose wsX3_choose) := goodIn_app (goodIn_of _ (by decide +kernel)) ggX4_planPass_X3_choose
set_option maxRecDepth 20000 in
theorem ggX4_planPass_X3_putsNewRunsFirst : GoodIn wsX4_planPass wsX3_putsNewRunsFirst := goodIn_r _ [35, 16, 67, 68, 69, 70, 71, 72] (by decide +kernel) (by decide +kernel)
set_option maxRecDepth 20000 in
theorem gX4_planPass_X3_putsNewRunsFirst : GoodIn wsX4_planPass (wsV RX4 69 RX3 yX3_putsNewRunsFirst wsX3_putsNewRunsFirst) := goodIn_app (goodIn_of _ (by decide +kernel)) ggX4_planPass_X3_putsNewRunsFirst
set_option maxRecDepth 20000 in
theorem ggX4_planPass_X4_planMerges : GoodIn wsX4_planPass wsX4_planMerges := goodIn_r _ [40, 1, 3, 2, 41, 42, 43, 44, 45, 9, 46, 11, 47, 48, 49, 39, 50, 4, 5, 59, 60, 61, 62, 63, 64, 65, 66, 67, 68, 69, 70, 71, 72] (by decide +kernel) (by decide +kernel)
set_option maxRecDepth 20000 in
theorem gX4_planPass_X4_planMerges : GoodIn wsX4_planPass (wsV RX4 73 RX4 yX4_planMerges wsX4_planMerges) := goodIn_app (goodIn_of _ (by decide +kernel)) ggX4_planPass_X4_planMerges
set_option maxRecDepth 20000 in
theorem ggX4_planPass_X4_keepOthers : GoodIn wsX4_planPass wsX4_keepOthers := goodIn_r _ [54, 3, 1, 2, 43, 44, 45, 9, 46, 11, 47, 48, 49, 39, 50, 4, 5, 59, 60, 61, 62, 63, 64, 65, 66, 67, 68, 69, 70, 71, 72] (by decide +kernel) (by decide +kernel)
set_option maxRecDepth 20000 in
theorem gX4_planPass_X4_keepOthers : GoodIn wsX4_planPass (wsV RX4 76 RX4 yX4_keepOthers wsX4_keepOthers) := goodIn_app (goodIn_of _ (by decide +kernel)) ggX4_planPass_X4_keepOthers
set_option maxRecDepth 20000 in
theorem ggX4_planPass_X3_close : GoodIn wsX4_planPass wsX3_close := goodIn_r _ [58, 21, 12, 13, 14, 15, 31, 22, 67, 68, 69, 70, 71, 72] (by decide +kernel) (by decide +kernel)
set_option maxRecDepth 20000 in
theorem gX4_planPass_X3_close : GoodIn wsX4_planPass (wsV RX4 79 RX3 yX3_close wsX3_close) := goodIn_app (goodIn_of _ (by decide +kernel)) ggX4_planPass_X3_close
theorem dX4_planPass_0 : decode cX4_planPass 0 = .ok (.aload_n 0, 1) := by decide +kernel
theorem dX4_planPass_1 : decode cX4_planPass 1 = .ok (.getfield 12, 3) := by decide +kernel
theorem dX4_planPass_4 : decode cX4_planPass 4 = .ok (.aload_n 0, 1) := by decide +kernel
theorem dX4_planPass_5 : decode cX4_planPass 5 = .ok (.getfield 18, 3) := by decide +kernel
theorem dX4_planPass_8 : decode cX4_planPass 8 = .ok (.aload_n 0, 1) := by decide +kernel
theorem dX4_planPass_9 : decode cX4_planPass 9 = .ok (.getfield 25, 3) := by decide +kernel
theorem dX4_planPass_12 : decode cX4_planPass 12 = .ok (.invokevirtual 65, 3) := by decide +kernel
theorem dX4_planPass_15 : decode cX4_planPass 15 = .ok (.aload_n 0, 1) := by decide +kernel
theorem dX4_planPass_16 : decode cX4_planPass 16 = .ok (.iconst 0, 1) := by decide +kernel
theorem dX4_planPass_17 : decode cX4_planPass 17 = .ok (.putfield 29, 3) := by decide +kernel
theorem dX4_planPass_20 : decode cX4_planPass 20 = .ok (.aload_n 0, 1) := by decide +kernel
theorem dX4_planPass_21 : decode cX4_planPass 21 = .ok (.getfield 12, 3) := by decide +kernel
theorem dX4_planPass_24 : decode cX4_planPass 24 = .ok (.invokevirtual 69, 3) := by decide +kernel
theorem dX4_planPass_27 : decode cX4_planPass 27 = .ok (.ifCond .eq 14, 3) := by decide +kernel
theorem dX4_planPass_30 : decode cX4_planPass 30 = .ok (.aload_n 0, 1) := by decide +kernel
theorem dX4_planPass_31 : decode cX4_planPass 31 = .ok (.invokevirtual 73, 3) := by decide +kernel
theorem dX4_planPass_34 : decode cX4_planPass 34 = .ok (.aload_n 0, 1) := by decide +kernel
theorem dX4_planPass_35 : decode cX4_planPass 35 = .ok (.invokevirtual 76, 3) := by decide +kernel
theorem dX4_planPass_38 : decode cX4_planPass 38 = .ok (.goto 11, 3) := by decide +kernel
theorem dX4_planPass_41 : decode cX4_planPass 41 = .ok (.aload_n 0, 1) := by decide +kernel
theorem dX4_planPass_42 : decode cX4_planPass 42 = .ok (.invokevirtual 76, 3) := by decide +kernel
theorem dX4_planPass_45 : decode cX4_planPass 45 = .ok (.aload_n 0, 1) := by decide +kernel
theorem dX4_planPass_46 : decode cX4_planPass 46 = .ok (.invokevirtual 73, 3) := by decide +kernel
theorem dX4_planPass_49 : decode cX4_planPass 49 = .ok (.aload_n 0, 1) := by decide +kernel
theorem dX4_planPass_50 : decode cX4_planPass 50 = .ok (.getfield 12, 3) := by decide +kernel
theorem dX4_planPass_53 : decode cX4_planPass 53 = .ok (.invokevirtual 79, 3) := by decide +kernel
theorem dX4_planPass_56 : decode cX4_planPass 56 = .ok (.aload_n 0, 1) := by decide +kernel
theorem dX4_planPass_57 : decode cX4_planPass 57 = .ok (.getfield 18, 3) := by decide +kernel
theorem dX4_planPass_60 : decode cX4_planPass 60 = .ok (.astore_n 1, 1) := by decide +kernel
theorem dX4_planPass_61 : decode cX4_planPass 61 = .ok (.aload_n 0, 1) := by decide +kernel
theorem dX4_planPass_62 : decode cX4_planPass 62 = .ok (.aload_n 0, 1) := by decide +kernel
theorem dX4_planPass_63 : decode cX4_planPass 63 = .ok (.getfield 22, 3) := by decide +kernel
theorem dX4_planPass_66 : decode cX4_planPass 66 = .ok (.putfield 18, 3) := by decide +kernel
theorem dX4_planPass_69 : decode cX4_planPass 69 = .ok (.aload_n 0, 1) := by decide +kernel
theorem dX4_planPass_70 : decode cX4_planPass 70 = .ok (.aload_n 1, 1) := by decide +kernel
theorem dX4_planPass_71 : decode cX4_planPass 71 = .ok (.putfield 22, 3) := by decide +kernel
theorem dX4_planPass_74 : decode cX4_planPass 74 = .ok (.aload_n 0, 1) := by decide +kernel
theorem dX4_planPass_75 : decode cX4_planPass 75 = .ok (.aload_n 0, 1) := by decide +kernel
theorem dX4_planPass_76 : decode cX4_planPass 76 = .ok (.getfield 29, 3) := by decide +kernel
theorem dX4_planPass_79 : decode cX4_planPass 79 = .ok (.putfield 25, 3) := by decide +kernel
theorem dX4_planPass_82 : decode cX4_planPass 82 = .ok (.return_, 1) := by decide +kernel
set_option maxRecDepth 20000 in
theorem ggX4_planMerges_X3_mergeOf : GoodIn wsX4_planMerges wsX3_mergeOf := goodIn_r _ [10, 11, 27, 28, 29, 30, 31, 32] (by decide +kernel) (by decide +kernel)
set_option maxRecDepth 20000 in
theorem gX4_planMerges_X3_mergeOf : GoodIn wsX4_planMerges (wsV RX4 83 RX3 yX3_mergeOf wsX3_mergeOf) := goodIn_app (goodIn_of _ (by decide +kernel)) ggX4_planMerges_X3_mergeOf
set_option maxRecDepth 20000 in
theorem ggX4_planMerges_X4_addLength : GoodIn wsX4_planMerges wsX4_addLength := goodIn_r _ [16, 17, 18, 19, 20, 21, 22, 23, 24, 25, 26] (by decide +kernel) (by decide +kernel)
set_option maxRecDepth 20000 in
theorem gX4_planMerges_X4_addLength : GoodIn wsX4_planMerges (wsV RX4 86 RX4 yX4_addLength wsX4_addLength) := goodIn_app (goodIn_of _ (by decide +kernel)) ggX4_planMerges_X4_addLength
theorem dX4_planMerges_0 : decode cX4_planMerges 0 = .ok (.iconst 0, 1) := by decide +kernel
theorem dX4_planMerges_1 : decode cX4_planMerges 1 = .ok (.istore_n 1, 1) := by decide +kernel
theorem dX4_planMerges_2 : decode cX4_planMerges 2 = .ok (.iload_n 1, 1) := by decide +kernel
theorem dX4_planMerges_3 : decode cX4_planMerges 3 = .ok (.aload_n 0, 1) := by decide +kernel
theorem dX4_planMerges_4 : decode cX4_planMerges 4 = .ok (.getfield 12, 3) := by decide +kernel
theorem dX4_planMerges_7 : decode cX4_planMerges 7 = .ok (.getfield 82, 3) := by decide +kernel
theorem dX4_planMerges_10 : decode cX4_planMerges 10 = .ok (.if_icmp .ge 84, 3) := by decide +kernel
theorem dX4_planMerges_13 : decode cX4_planMerges 13 = .ok (.iconst 0, 1) := by decide +kernel
theorem dX4_planMerges_14 : decode cX4_planMerges 14 = .ok (.istore_n 2, 1) := by decide +kernel
theorem dX4_planMerges_15 : decode cX4_planMerges 15 = .ok (.iconst 0, 1) := by decide +kernel
theorem dX4_planMerges_16 : decode cX4_planMerges 16 = .ok (.istore_n 3, 1) := by decide +kernel
theorem dX4_planMerges_17 : decode cX4_planMerges 17 = .ok (.iload_n 3, 1) := by decide +kernel
theorem dX4_planMerges_18 : decode cX4_planMerges 18 = .ok (.aload_n 0, 1) := by decide +kernel
theorem dX4_planMerges_19 : decode cX4_planMerges 19 = .ok (.getfield 25, 3) := by decide +kernel
theorem dX4_planMerges_22 : decode cX4_planMerges 22 = .ok (.if_icmp .ge 41, 3) := by decide +kernel
theorem dX4_planMerges_25 : decode cX4_planMerges 25 = .ok (.iload_n 3, 1) := by decide +kernel
theorem dX4_planMerges_26 : decode cX4_planMerges 26 = .ok (.sipush 200, 3) := by decide +kernel
theorem dX4_planMerges_29 : decode cX4_planMerges 29 = .ok (.if_icmp .ge 34, 3) := by decide +kernel
theorem dX4_planMerges_32 : decode cX4_planMerges 32 = .ok (.iload_n 2, 1) := by decide +kernel
theorem dX4_planMerges_33 : decode cX4_planMerges 33 = .ok (.aload_n 0, 1) := by decide +kernel
theorem dX4_planMerges_34 : decode cX4_planMerges 34 = .ok (.getfield 12, 3) := by decide +kernel
theorem dX4_planMerges_37 : decode cX4_planMerges 37 = .ok (.iload_n 3, 1) := by decide +kernel
theorem dX4_planMerges_38 : decode cX4_planMerges 38 = .ok (.invokevirtual 83, 3) := by decide +kernel
theorem dX4_planMerges_41 : decode cX4_planMerges 41 = .ok (.iload_n 1, 1) := by decide +kernel
theorem dX4_planMerges_42 : decode cX4_planMerges 42 = .ok (.if_icmp .ne 12, 3) := by decide +kernel
theorem dX4_planMerges_45 : decode cX4_planMerges 45 = .ok (.aload_n 0, 1) := by decide +kernel
theorem dX4_planMerges_46 : decode cX4_planMerges 46 = .ok (.getfield 18, 3) := by decide +kernel
theorem dX4_planMerges_49 : decode cX4_planMerges 49 = .ok (.iload_n 3, 1) := by decide +kernel
theorem dX4_planMerges_50 : decode cX4_planMerges 50 = .ok (.iaload, 1) := by decide +kernel
theorem dX4_planMerges_51 : decode cX4_planMerges 51 = .ok (.goto 4, 3) := by decide +kernel
theorem dX4_planMerges_54 : decode cX4_planMerges 54 = .ok (.iconst 0, 1) := by decide +kernel
theorem dX4_planMerges_55 : decode cX4_planMerges 55 = .ok (.iadd, 1) := by decide +kernel
theorem dX4_planMerges_56 : decode cX4_planMerges 56 = .ok (.istore_n 2, 1) := by decide +kernel
theorem dX4_planMerges_57 : decode cX4_planMerges 57 = .ok (.iinc 3 1, 3) := by decide +kernel
theorem dX4_planMerges_60 : decode cX4_planMerges 60 = .ok (.goto (-43), 3) := by decide +kernel
theorem dX4_planMerges_63 : decode cX4_planMerges 63 = .ok (.aload_n 0, 1) := by decide +kernel
theorem dX4_planMerges_64 : decode cX4_planMerges 64 = .ok (.iload_n 2, 1) := by decide +kernel
theorem dX4_planMerges_65 : decode cX4_planMerges 65 = .ok (.invokevirtual 86, 3) := by decide +kernel
theorem dX4_planMerges_68 : decode cX4_planMerges 68 = .ok (.aload_n 0, 1) := by decide +kernel
theorem dX4_planMerges_69 : decode cX4_planMerges 69 = .ok (.dup, 1) := by decide +kernel
theorem dX4_planMerges_70 : decode cX4_planMerges 70 = .ok (.getfield 35, 3) := by decide +kernel
theorem dX4_planMerges_73 : decode cX4_planMerges 73 = .ok (.iload_n 2, 1) := by decide +kernel
theorem dX4_planMerges_74 : decode cX4_planMerges 74 = .ok (.iadd, 1) := by decide +kernel
theorem dX4_planMerges_75 : decode cX4_planMerges 75 = .ok (.putfield 35, 3) := by decide +kernel
theorem dX4_planMerges_78 : decode cX4_planMerges 78 = .ok (.aload_n 0, 1) := by decide +kernel
theorem dX4_planMerges_79 : decode cX4_planMerges 79 = .ok (.dup, 1) := by decide +kernel
theorem dX4_planMerges_80 : decode cX4_planMerges 80 = .ok (.getfield 38, 3) := by decide +kernel
theorem dX4_planMerges_83 : decode cX4_planMerges 83 = .ok (.iconst 1, 1) := by decide +kernel
theorem dX4_planMerges_84 : decode cX4_planMerges 84 = .ok (.iadd, 1) := by decide +kernel
theorem dX4_planMerges_85 : decode cX4_planMerges 85 = .ok (.putfield 38, 3) := by decide +kernel
theorem dX4_planMerges_88 : decode cX4_planMerges 88 = .ok (.iinc 1 1, 3) := by decide +kernel
theorem dX4_planMerges_91 : decode cX4_planMerges 91 = .ok (.goto (-89), 3) := by decide +kernel
theorem dX4_planMerges_94 : decode cX4_planMerges 94 = .ok (.return_, 1) := by decide +kernel
set_option maxRecDepth 20000 in
theorem ggX4_keepOthers_X3_mergeOf : GoodIn wsX4_keepOthers wsX3_mergeOf := goodIn_r _ [8, 9, 25, 26, 27, 28, 29, 30] (by decide +kernel) (by decide +kernel)
set_option maxRecDepth 20000 in
theorem gX4_keepOthers_X3_mergeOf : GoodIn wsX4_keepOthers (wsV RX4 83 RX3 yX3_mergeOf wsX3_mergeOf) := goodIn_app (goodIn_of _ (by decide +kernel)) ggX4_keepOthers_X3_mergeOf
set_option maxRecDepth 20000 in
theorem ggX4_keepOthers_X4_addLength : GoodIn wsX4_keepOthers wsX4_addLength := goodIn_r _ [14, 15, 16, 17, 18, 19, 20, 21, 22, 23, 24] (by decide +kernel) (by decide +kernel)
set_option maxRecDepth 20000 in
theorem gX4_keepOthers_X4_addLength : GoodIn wsX4_keepOthers (wsV RX4 86 RX4 yX4_addLength wsX4_addLength) := goodIn_app (goodIn_of _ (by decide +kernel)) ggX4_keepOthers_X4_addLength
theorem dX4_keepOthers_0 : decode cX4_keepOthers 0 = .ok (.iconst 0, 1) := by decide +kernel
theorem dX4_keepOthers_1 : decode cX4_keepOthers 1 = .ok (.istore_n 1, 1) := by decide +kernel
theorem dX4_keepOthers_2 : decode cX4_keepOthers 2 = .ok (.iload_n 1, 1) := by decide +kernel
theorem dX4_keepOthers_3 : decode cX4_keepOthers 3 = .ok (.aload_n 0, 1) := by decide +kernel
theorem dX4_keepOthers_4 : decode cX4_keepOthers 4 = .ok (.getfield 25, 3) := by decide +kernel
theorem dX4_keepOthers_7 : decode cX4_keepOthers 7 = .ok (.if_icmp .ge 38, 3) := by decide +kernel
theorem dX4_keepOthers_10 : decode cX4_keepOthers 10 = .ok (.iload_n 1, 1) := by decide +kernel
theorem dX4_keepOthers_11 : decode cX4_keepOthers 11 = .ok (.sipush 200, 3) := by decide +kernel
theorem dX4_keepOthers_14 : decode cX4_keepOthers 14 = .ok (.if_icmp .ge 31, 3) := by decide +kernel
theorem dX4_keepOthers_17 : decode cX4_keepOthers 17 = .ok (.aload_n 0, 1) := by decide +kernel
theorem dX4_keepOthers_18 : decode cX4_keepOthers 18 = .ok (.getfield 12, 3) := by decide +kernel
theorem dX4_keepOthers_21 : decode cX4_keepOthers 21 = .ok (.iload_n 1, 1) := by decide +kernel
theorem dX4_keepOthers_22 : decode cX4_keepOthers 22 = .ok (.invokevirtual 83, 3) := by decide +kernel
theorem dX4_keepOthers_25 : decode cX4_keepOthers 25 = .ok (.iconst (-1), 1) := by decide +kernel
theorem dX4_keepOthers_26 : decode cX4_keepOthers 26 = .ok (.if_icmp .ne 13, 3) := by decide +kernel
theorem dX4_keepOthers_29 : decode cX4_keepOthers 29 = .ok (.aload_n 0, 1) := by decide +kernel
theorem dX4_keepOthers_30 : decode cX4_keepOthers 30 = .ok (.aload_n 0, 1) := by decide +kernel
theorem dX4_keepOthers_31 : decode cX4_keepOthers 31 = .ok (.getfield 18, 3) := by decide +kernel
theorem dX4_keepOthers_34 : decode cX4_keepOthers 34 = .ok (.iload_n 1, 1) := by decide +kernel
theorem dX4_keepOthers_35 : decode cX4_keepOthers 35 = .ok (.iaload, 1) := by decide +kernel
theorem dX4_keepOthers_36 : decode cX4_keepOthers 36 = .ok (.invokevirtual 86, 3) := by decide +kernel
theorem dX4_keepOthers_39 : decode cX4_keepOthers 39 = .ok (.iinc 1 1, 3) := by decide +kernel
theorem dX4_keepOthers_42 : decode cX4_keepOthers 42 = .ok (.goto (-40), 3) := by decide +kernel
theorem dX4_keepOthers_45 : decode cX4_keepOthers 45 = .ok (.return_, 1) := by decide +kernel
theorem dX4_addLength_0 : decode cX4_addLength 0 = .ok (.aload_n 0, 1) := by decide +kernel
theorem dX4_addLength_1 : decode cX4_addLength 1 = .ok (.getfield 29, 3) := by decide +kernel
theorem dX4_addLength_4 : decode cX4_addLength 4 = .ok (.ifCond .lt 33, 3) := by decide +kernel
theorem dX4_addLength_7 : decode cX4_addLength 7 = .ok (.aload_n 0, 1) := by decide +kernel
theorem dX4_addLength_8 : decode cX4_addLength 8 = .ok (.getfield 29, 3) := by decide +kernel
theorem dX4_addLength_11 : decode cX4_addLength 11 = .ok (.sipush 200, 3) := by decide +kernel
theorem dX4_addLength_14 : decode cX4_addLength 14 = .ok (.if_icmp .ge 23, 3) := by decide +kernel
theorem dX4_addLength_17 : decode cX4_addLength 17 = .ok (.aload_n 0, 1) := by decide +kernel
theorem dX4_addLength_18 : decode cX4_addLength 18 = .ok (.getfield 22, 3) := by decide +kernel
theorem dX4_addLength_21 : decode cX4_addLength 21 = .ok (.aload_n 0, 1) := by decide +kernel
theorem dX4_addLength_22 : decode cX4_addLength 22 = .ok (.getfield 29, 3) := by decide +kernel
theorem dX4_addLength_25 : decode cX4_addLength 25 = .ok (.iload_n 1, 1) := by decide +kernel
theorem dX4_addLength_26 : decode cX4_addLength 26 = .ok (.iastore, 1) := by decide +kernel
theorem dX4_addLength_27 : decode cX4_addLength 27 = .ok (.aload_n 0, 1) := by decide +kernel
theorem dX4_addLength_28 : decode cX4_addLength 28 = .ok (.dup, 1) := by decide +kernel
theorem dX4_addLength_29 : decode cX4_addLength 29 = .ok (.getfield 29, 3) := by decide +kernel
theorem dX4_addLength_32 : decode cX4_addLength 32 = .ok (.iconst 1, 1) := by decide +kernel
theorem dX4_addLength_33 : decode cX4_addLength 33 = .ok (.iadd, 1) := by decide +kernel
theorem dX4_addLength_34 : decode cX4_addLength 34 = .ok (.putfield 29, 3) := by decide +kernel
theorem dX4_addLength_37 : decode cX4_addLength 37 = .ok (.return_, 1) := by decide +kernel
set_option maxRecDepth 20000 in
theorem ggX4_fewestMoves_X4_takeLengths : GoodIn wsX4_fewestMoves wsX4_takeLengths := goodIn_r _ [7, 8, 9, 10, 11, 1, 2, 12, 13, 14, 15, 16, 17, 18, 28, 29, 30, 31, 32, 33, 34, 35, 23, 24, 25, 26, 27] (by decide +kernel) (by decide +kernel)
set_option maxRecDepth 20000 in
theorem gX4_fewestMoves_X4_takeLengths : GoodIn wsX4_fewestMoves (wsV RX4 48 RX4 yX4_takeLengths wsX4_takeLengths) := goodIn_app (goodIn_of _ (by decide +kernel)) ggX4_fewestMoves_X4_takeLengths
set_option maxRecDepth 20000 in
theorem ggX4_fewestMoves_X4_takeShortest : GoodIn wsX4_fewestMoves wsX4_takeShortest := goodIn_r _ [22, 2, 28, 29, 30, 31, 32, 33, 34, 35] (by decide +kernel) (by decide +kernel)
set_option maxRecDepth 20000 in
theorem gX4_fewestMoves_X4_takeShortest : GoodIn wsX4_fewestMoves (wsV RX4 90 RX4 yX4_takeShortest wsX4_takeShortest) := goodIn_app (goodIn_of _ (by decide +kernel)) ggX4_fewestMoves_X4_takeShortest
theorem dX4_fewestMoves_0 : decode cX4_fewestMoves 0 = .ok (.aload_n 0, 1) := by decide +kernel
theorem dX4_fewestMoves_1 : decode cX4_fewestMoves 1 = .ok (.aload_n 1, 1) := by decide +kernel
theorem dX4_fewestMoves_2 : decode cX4_fewestMoves 2 = .ok (.aload_n 1, 1) := by decide +kernel
theorem dX4_fewestMoves_3 : decode cX4_fewestMoves 3 = .ok (.getfield 41, 3) := by decide +kernel
theorem dX4_fewestMoves_6 : decode cX4_fewestMoves 6 = .ok (.invokevirtual 48, 3) := by decide +kernel
theorem dX4_fewestMoves_9 : decode cX4_fewestMoves 9 = .ok (.iconst 0, 1) := by decide +kernel
theorem dX4_fewestMoves_10 : decode cX4_fewestMoves 10 = .ok (.istore_n 2, 1) := by decide +kernel
theorem dX4_fewestMoves_11 : decode cX4_fewestMoves 11 = .ok (.aload_n 0, 1) := by decide +kernel
theorem dX4_fewestMoves_12 : decode cX4_fewestMoves 12 = .ok (.getfield 25, 3) := by decide +kernel
theorem dX4_fewestMoves_15 : decode cX4_fewestMoves 15 = .ok (.istore_n 3, 1) := by decide +kernel
theorem dX4_fewestMoves_16 : decode cX4_fewestMoves 16 = .ok (.iload_n 3, 1) := by decide +kernel
theorem dX4_fewestMoves_17 : decode cX4_fewestMoves 17 = .ok (.iconst 1, 1) := by decide +kernel
theorem dX4_fewestMoves_18 : decode cX4_fewestMoves 18 = .ok (.if_icmp .le 48, 3) := by decide +kernel
theorem dX4_fewestMoves_21 : decode cX4_fewestMoves 21 = .ok (.aload_n 0, 1) := by decide +kernel
theorem dX4_fewestMoves_22 : decode cX4_fewestMoves 22 = .ok (.iload_n 3, 1) := by decide +kernel
theorem dX4_fewestMoves_23 : decode cX4_fewestMoves 23 = .ok (.invokevirtual 90, 3) := by decide +kernel
theorem dX4_fewestMoves_26 : decode cX4_fewestMoves 26 = .ok (.aload_n 0, 1) := by decide +kernel
theorem dX4_fewestMoves_27 : decode cX4_fewestMoves 27 = .ok (.iload_n 3, 1) := by decide +kernel
theorem dX4_fewestMoves_28 : decode cX4_fewestMoves 28 = .ok (.iconst 1, 1) := by decide +kernel
theorem dX4_fewestMoves_29 : decode cX4_fewestMoves 29 = .ok (.isub, 1) := by decide +kernel
theorem dX4_fewestMoves_30 : decode cX4_fewestMoves 30 = .ok (.invokevirtual 90, 3) := by decide +kernel
theorem dX4_fewestMoves_33 : decode cX4_fewestMoves 33 = .ok (.iadd, 1) := by decide +kernel
theorem dX4_fewestMoves_34 : decode cX4_fewestMoves 34 = .ok (.istore 4, 2) := by decide +kernel
theorem dX4_fewestMoves_36 : decode cX4_fewestMoves 36 = .ok (.iload_n 3, 1) := by decide +kernel
theorem dX4_fewestMoves_37 : decode cX4_fewestMoves 37 = .ok (.iconst 2, 1) := by decide +kernel
theorem dX4_fewestMoves_38 : decode cX4_fewestMoves 38 = .ok (.isub, 1) := by decide +kernel
theorem dX4_fewestMoves_39 : decode cX4_fewestMoves 39 = .ok (.sipush 200, 3) := by decide +kernel
theorem dX4_fewestMoves_42 : decode cX4_fewestMoves 42 = .ok (.if_icmp .ge 13, 3) := by decide +kernel
theorem dX4_fewestMoves_45 : decode cX4_fewestMoves 45 = .ok (.aload_n 0, 1) := by decide +kernel
theorem dX4_fewestMoves_46 : decode cX4_fewestMoves 46 = .ok (.getfield 18, 3) := by decide +kernel
theorem dX4_fewestMoves_49 : decode cX4_fewestMoves 49 = .ok (.iload_n 3, 1) := by decide +kernel
theorem dX4_fewestMoves_50 : decode cX4_fewestMoves 50 = .ok (.iconst 2, 1) := by decide +kernel
theorem dX4_fewestMoves_51 : decode cX4_fewestMoves 51 = .ok (.isub, 1) := by decide +kernel
theorem dX4_fewestMoves_52 : decode cX4_fewestMoves 52 = .ok (.iload 4, 2) := by decide +kernel
theorem dX4_fewestMoves_54 : decode cX4_fewestMoves 54 = .ok (.iastore, 1) := by decide +kernel
theorem dX4_fewestMoves_55 : decode cX4_fewestMoves 55 = .ok (.iload_n 2, 1) := by decide +kernel
theorem dX4_fewestMoves_56 : decode cX4_fewestMoves 56 = .ok (.iload 4, 2) := by decide +kernel
theorem dX4_fewestMoves_58 : decode cX4_fewestMoves 58 = .ok (.iadd, 1) := by decide +kernel
theorem dX4_fewestMoves_59 : decode cX4_fewestMoves 59 = .ok (.istore_n 2, 1) := by decide +kernel
theorem dX4_fewestMoves_60 : decode cX4_fewestMoves 60 = .ok (.iinc 3 (-1), 3) := by decide +kernel
theorem dX4_fewestMoves_63 : decode cX4_fewestMoves 63 = .ok (.goto (-47), 3) := by decide +kernel
theorem dX4_fewestMoves_66 : decode cX4_fewestMoves 66 = .ok (.iload_n 2, 1) := by decide +kernel
theorem dX4_fewestMoves_67 : decode cX4_fewestMoves 67 = .ok (.ireturn, 1) := by decide +kernel
theorem dX4_takeShortest_0 : decode cX4_takeShortest 0 = .ok (.iload_n 1, 1) := by decide +kernel
theorem dX4_takeShortest_1 : decode cX4_takeShortest 1 = .ok (.iconst 1, 1) := by decide +kernel
theorem dX4_takeShortest_2 : decode cX4_takeShortest 2 = .ok (.isub, 1) := by decide +kernel
theorem dX4_takeShortest_3 : decode cX4_takeShortest 3 = .ok (.istore_n 2, 1) := by decide +kernel
theorem dX4_takeShortest_4 : decode cX4_takeShortest 4 = .ok (.iload_n 2, 1) := by decide +kernel
theorem dX4_takeShortest_5 : decode cX4_takeShortest 5 = .ok (.ifCond .lt 10, 3) := by decide +kernel
theorem dX4_takeShortest_8 : decode cX4_takeShortest 8 = .ok (.iload_n 2, 1) := by decide +kernel
theorem dX4_takeShortest_9 : decode cX4_takeShortest 9 = .ok (.sipush 200, 3) := by decide +kernel
theorem dX4_takeShortest_12 : decode cX4_takeShortest 12 = .ok (.if_icmp .lt 5, 3) := by decide +kernel
theorem dX4_takeShortest_15 : decode cX4_takeShortest 15 = .ok (.iconst 0, 1) := by decide +kernel
theorem dX4_takeShortest_16 : decode cX4_takeShortest 16 = .ok (.ireturn, 1) := by decide +kernel
theorem dX4_takeShortest_17 : decode cX4_takeShortest 17 = .ok (.iload_n 2, 1) := by decide +kernel
theorem dX4_takeShortest_18 : decode cX4_takeShortest 18 = .ok (.istore_n 3, 1) := by decide +kernel
theorem dX4_takeShortest_19 : decode cX4_takeShortest 19 = .ok (.iconst 0, 1) := by decide +kernel
theorem dX4_takeShortest_20 : decode cX4_takeShortest 20 = .ok (.istore 4, 2) := by decide +kernel
theorem dX4_takeShortest_22 : decode cX4_takeShortest 22 = .ok (.iload 4, 2) := by decide +kernel
theorem dX4_takeShortest_24 : decode cX4_takeShortest 24 = .ok (.iload_n 2, 1) := by decide +kernel
theorem dX4_takeShortest_25 : decode cX4_takeShortest 25 = .ok (.if_icmp .ge 32, 3) := by decide +kernel
theorem dX4_takeShortest_28 : decode cX4_takeShortest 28 = .ok (.aload_n 0, 1) := by decide +kernel
theorem dX4_takeShortest_29 : decode cX4_takeShortest 29 = .ok (.getfield 18, 3) := by decide +kernel
theorem dX4_takeShortest_32 : decode cX4_takeShortest 32 = .ok (.iload 4, 2) := by decide +kernel
theorem dX4_takeShortest_34 : decode cX4_takeShortest 34 = .ok (.iaload, 1) := by decide +kernel
theorem dX4_takeShortest_35 : decode cX4_takeShortest 35 = .ok (.aload_n 0, 1) := by decide +kernel
theorem dX4_takeShortest_36 : decode cX4_takeShortest 36 = .ok (.getfield 18, 3) := by decide +kernel
theorem dX4_takeShortest_39 : decode cX4_takeShortest 39 = .ok (.iload_n 3, 1) := by decide +kernel
theorem dX4_takeShortest_40 : decode cX4_takeShortest 40 = .ok (.iaload, 1) := by decide +kernel
theorem dX4_takeShortest_41 : decode cX4_takeShortest 41 = .ok (.if_icmp .ge 8, 3) := by decide +kernel
theorem dX4_takeShortest_44 : decode cX4_takeShortest 44 = .ok (.iload 4, 2) := by decide +kernel
theorem dX4_takeShortest_46 : decode cX4_takeShortest 46 = .ok (.goto 4, 3) := by decide +kernel
theorem dX4_takeShortest_49 : decode cX4_takeShortest 49 = .ok (.iload_n 3, 1) := by decide +kernel
theorem dX4_takeShortest_50 : decode cX4_takeShortest 50 = .ok (.istore_n 3, 1) := by decide +kernel
theorem dX4_takeShortest_51 : decode cX4_takeShortest 51 = .ok (.iinc 4 1, 3) := by decide +kernel
theorem dX4_takeShortest_54 : decode cX4_takeShortest 54 = .ok (.goto (-32), 3) := by decide +kernel
theorem dX4_takeShortest_57 : decode cX4_takeShortest 57 = .ok (.aload_n 0, 1) := by decide +kernel
theorem dX4_takeShortest_58 : decode cX4_takeShortest 58 = .ok (.getfield 18, 3) := by decide +kernel
theorem dX4_takeShortest_61 : decode cX4_takeShortest 61 = .ok (.iload_n 3, 1) := by decide +kernel
theorem dX4_takeShortest_62 : decode cX4_takeShortest 62 = .ok (.iaload, 1) := by decide +kernel
theorem dX4_takeShortest_63 : decode cX4_takeShortest 63 = .ok (.istore 4, 2) := by decide +kernel
theorem dX4_takeShortest_65 : decode cX4_takeShortest 65 = .ok (.aload_n 0, 1) := by decide +kernel
theorem dX4_takeShortest_66 : decode cX4_takeShortest 66 = .ok (.getfield 18, 3) := by decide +kernel
theorem dX4_takeShortest_69 : decode cX4_takeShortest 69 = .ok (.iload_n 3, 1) := by decide +kernel
theorem dX4_takeShortest_70 : decode cX4_takeShortest 70 = .ok (.aload_n 0, 1) := by decide +kernel
theorem dX4_takeShortest_71 : decode cX4_takeShortest 71 = .ok (.getfield 18, 3) := by decide +kernel
theorem dX4_takeShortest_74 : decode cX4_takeShortest 74 = .ok (.iload_n 2, 1) := by decide +kernel
theorem dX4_takeShortest_75 : decode cX4_takeShortest 75 = .ok (.iaload, 1) := by decide +kernel
theorem dX4_takeShortest_76 : decode cX4_takeShortest 76 = .ok (.iastore, 1) := by decide +kernel
theorem dX4_takeShortest_77 : decode cX4_takeShortest 77 = .ok (.iload 4, 2) := by decide +kernel
theorem dX4_takeShortest_79 : decode cX4_takeShortest 79 = .ok (.ireturn, 1) := by decide +kernel
set_option maxRecDepth 20000 in
theorem ggX5_init_X10_init : GoodIn wsX5_init wsX10_init := goodIn_r _ [25, 26, 2, 3, 8, 27, 28, 37, 38] (by decide +kernel) (by decide +kernel)
set_option maxRecDepth 20000 in
theorem gX5_init_X10_init_n11 : GoodIn wsX5_init (wsX10_init) := ggX5_init_X10_init
set_option maxRecDepth 20000 in
theorem ggX5_init_X8_init : GoodIn wsX5_init wsX8_init := goodIn_r _ [30, 31, 2, 3, 32, 33, 34, 35, 36, 52, 53, 54, 55, 56] (by decide +kernel) (by decide +kernel)
set_option maxRecDepth 20000 in
theorem gX5_init_X8_init_n24 : GoodIn wsX5_init (wsX8_init) := ggX5_init_X8_init
theorem dX5_init_0 : decode cX5_init 0 = .ok (.aload_n 0, 1) := by decide +kernel
theorem dX5_init_1 : decode cX5_init 1 = .ok (.invokespecial 3, 3) := by decide +kernel
theorem dX5_init_4 : decode cX5_init 4 = .ok (.aload_n 0, 1) := by decide +kernel
theorem dX5_init_5 : decode cX5_init 5 = .ok (.new 9, 3) := by decide +kernel
theorem dX5_init_8 : decode cX5_init 8 = .ok (.dup, 1) := by decide +kernel
theorem dX5_init_9 : decode cX5_init 9 = .ok (.invokespecial 11, 3) := by decide +kernel
theorem dX5_init_12 : decode cX5_init 12 = .ok (.putfield 12, 3) := by decide +kernel
theorem dX5_init_15 : decode cX5_init 15 = .ok (.aload_n 0, 1) := by decide +kernel
theorem dX5_init_16 : decode cX5_init 16 = .ok (.iconst 3, 1) := by decide +kernel
theorem dX5_init_17 : decode cX5_init 17 = .ok (.newarray .int, 2) := by decide +kernel
theorem dX5_init_19 : decode cX5_init 19 = .ok (.putfield 18, 3) := by decide +kernel
theorem dX5_init_22 : decode cX5_init 22 = .ok (.aload_n 0, 1) := by decide +kernel
theorem dX5_init_23 : decode cX5_init 23 = .ok (.new 22, 3) := by decide +kernel
theorem dX5_init_26 : decode cX5_init 26 = .ok (.dup, 1) := by decide +kernel
theorem dX5_init_27 : decode cX5_init 27 = .ok (.invokespecial 24, 3) := by decide +kernel
theorem dX5_init_30 : decode cX5_init 30 = .ok (.putfield 25, 3) := by decide +kernel
theorem dX5_init_33 : decode cX5_init 33 = .ok (.aload_n 0, 1) := by decide +kernel
theorem dX5_init_34 : decode cX5_init 34 = .ok (.iconst 0, 1) := by decide +kernel
theorem dX5_init_35 : decode cX5_init 35 = .ok (.putfield 29, 3) := by decide +kernel
theorem dX5_init_38 : decode cX5_init 38 = .ok (.aload_n 0, 1) := by decide +kernel
theorem dX5_init_39 : decode cX5_init 39 = .ok (.iconst 0, 1) := by decide +kernel
theorem dX5_init_40 : decode cX5_init 40 = .ok (.putfield 33, 3) := by decide +kernel
theorem dX5_init_43 : decode cX5_init 43 = .ok (.aload_n 0, 1) := by decide +kernel
theorem dX5_init_44 : decode cX5_init 44 = .ok (.iconst 0, 1) := by decide +kernel
theorem dX5_init_45 : decode cX5_init 45 = .ok (.putfield 36, 3) := by decide +kernel
theorem dX5_init_48 : decode cX5_init 48 = .ok (.aload_n 0, 1) := by decide +kernel
theorem dX5_init_49 : decode cX5_init 49 = .ok (.iconst 0, 1) := by decide +kernel
theorem dX5_init_50 : decode cX5_init 50 = .ok (.putfield 39, 3) := by decide +kernel
theorem dX5_init_53 : decode cX5_init 53 = .ok (.aload_n 0, 1) := by decide +kernel
theorem dX5_init_54 : decode cX5_init 54 = .ok (.iconst 0, 1) := by decide +kernel
theorem dX5_init_55 : decode cX5_init 55 = .ok (.putfield 42, 3) := by decide +kernel
theorem dX5_init_58 : decode cX5_init 58 = .ok (.aload_n 0, 1) := by decide +kernel
theorem dX5_init_59 : decode cX5_init 59 = .ok (.iconst 0, 1) := by decide +kernel
theorem dX5_init_60 : decode cX5_init 60 = .ok (.putfield 45, 3) := by decide +kernel
theorem dX5_init_63 : decode cX5_init 63 = .ok (.aload_n 0, 1) := by decide +kernel
theorem dX5_init_64 : decode cX5_init 64 = .ok (.iconst 0, 1) := by decide +kernel
theorem dX5_init_65 : decode cX5_init 65 = .ok (.putfield 48, 3) := by decide +kernel
theorem dX5_init_68 : decode cX5_init 68 = .ok (.aload_n 0, 1) := by decide +kernel
theorem dX5_init_69 : decode cX5_init 69 = .ok (.iconst 0, 1) := by decide +kernel
theorem dX5_init_70 : decode cX5_init 70 = .ok (.putfield 51, 3) := by decide +kernel
theorem dX5_init_73 : decode cX5_init 73 = .ok (.aload_n 0, 1) := by decide +kernel
theorem dX5_init_74 : decode cX5_init 74 = .ok (.iconst 0, 1) := by decide +kernel
theorem dX5_init_75 : decode cX5_init 75 = .ok (.putfield 55, 3) := by decide +kernel
theorem dX5_init_78 : decode cX5_init 78 = .ok (.aload_n 0, 1) := by decide +kernel
theorem dX5_init_79 : decode cX5_init 79 = .ok (.iconst (-1), 1) := by decide +kernel
theorem dX5_init_80 : decode cX5_init 80 = .ok (.putfield 58, 3) := by decide +kernel
theorem dX5_init_83 : decode cX5_init 83 = .ok (.return_, 1) := by decide +kernel
theorem dX5_restart_0 : decode cX5_restart 0 = .ok (.aload_n 0, 1) := by decide +kernel
theorem dX5_restart_1 : decode cX5_restart 1 = .ok (.iconst 0, 1) := by decide +kernel
theorem dX5_restart_2 : decode cX5_restart 2 = .ok (.putfield 36, 3) := by decide +kernel
theorem dX5_restart_5 : decode cX5_restart 5 = .ok (.aload_n 0, 1) := by decide +kernel
theorem dX5_restart_6 : decode cX5_restart 6 = .ok (.iconst 0, 1) := by decide +kernel
theorem dX5_restart_7 : decode cX5_restart 7 = .ok (.putfield 55, 3) := by decide +kernel
theorem dX5_restart_10 : decode cX5_restart 10 = .ok (.aload_n 0, 1) := by decide +kernel
theorem dX5_restart_11 : decode cX5_restart 11 = .ok (.iconst (-1), 1) := by decide +kernel
theorem dX5_restart_12 : decode cX5_restart 12 = .ok (.putfield 58, 3) := by decide +kernel
theorem dX5_restart_15 : decode cX5_restart 15 = .ok (.return_, 1) := by decide +kernel
theorem dX5_tapeAt_0 : decode cX5_tapeAt 0 = .ok (.iload_n 1, 1) := by decide +kernel
theorem dX5_tapeAt_1 : decode cX5_tapeAt 1 = .ok (.ifCond .lt 21, 3) := by decide +kernel
theorem dX5_tapeAt_4 : decode cX5_tapeAt 4 = .ok (.iload_n 1, 1) := by decide +kernel
theorem dX5_tapeAt_5 : decode cX5_tapeAt 5 = .ok (.aload_n 0, 1) := by decide +kernel
theorem dX5_tapeAt_6 : decode cX5_tapeAt 6 = .ok (.getfield 18, 3) := by decide +kernel
theorem dX5_tapeAt_9 : decode cX5_tapeAt 9 = .ok (.arraylength, 1) := by decide +kernel
theorem dX5_tapeAt_10 : decode cX5_tapeAt 10 = .ok (.if_icmp .ge 12, 3) := by decide +kernel
theorem dX5_tapeAt_13 : decode cX5_tapeAt 13 = .ok (.aload_n 0, 1) := by decide +kernel
theorem dX5_tapeAt_14 : decode cX5_tapeAt 14 = .ok (.getfield 18, 3) := by decide +kernel
theorem dX5_tapeAt_17 : decode cX5_tapeAt 17 = .ok (.iload_n 1, 1) := by decide +kernel
theorem dX5_tapeAt_18 : decode cX5_tapeAt 18 = .ok (.iaload, 1) := by decide +kernel
theorem dX5_tapeAt_19 : decode cX5_tapeAt 19 = .ok (.goto 4, 3) := by decide +kernel
theorem dX5_tapeAt_22 : decode cX5_tapeAt 22 = .ok (.iconst 0, 1) := by decide +kernel
theorem dX5_tapeAt_23 : decode cX5_tapeAt 23 = .ok (.ireturn, 1) := by decide +kernel
set_option maxRecDepth 20000 in
theorem ggX5_readStatement_X5_readWord : GoodIn wsX5_readStatement wsX5_readWord := goodIn_r _ [10, 11, 2, 12, 1, 13, 14, 15, 16, 17, 18, 19, 20, 21, 9, 22, 136, 137, 138, 139, 140, 141, 142, 143, 144, 145, 146, 147, 148, 149, 150] (by decide +kernel) (by decide +kernel)
set_option maxRecDepth 20000 in
theorem gX5_readStatement_X5_readWord : GoodIn wsX5_readStatement (wsV RX5 61 RX5 yX5_readWord wsX5_readWord) := goodIn_app (goodIn_of _ (by decide +kernel)) ggX5_readStatement_X5_readWord
set_option maxRecDepth 20000 in
theorem ggX5_readStatement_X8_takeOver : GoodIn wsX5_readStatement wsX8_takeOver := goodIn_r _ [27, 28, 29, 30, 31, 32, 151, 152, 153, 154, 155] (by decide +kernel) (by decide +kernel)
set_option maxRecDepth 20000 in
theorem gX5_readStatement_X8_takeOver : GoodIn wsX5_readStatement (wsV RX5 64 RX8 yX8_takeOver wsX8_takeOver) := goodIn_app (goodIn_of _ (by decide +kernel)) ggX5_readStatement_X8_takeOver
set_option maxRecDepth 20000 in
theorem ggX5_readStatement_X5_isWord : GoodIn wsX5_readStatement wsX5_isWord := goodIn_r _ [36, 1, 11, 2, 12, 37, 38, 39, 40, 41, 42, 43, 44, 45, 46, 47, 48, 13, 14, 15, 16, 17, 18, 19, 49, 50, 51, 52, 53, 54, 55, 56, 57, 58, 59, 60, 61, 62, 63, 64, 65, 66, 67, 68, 69, 70, 71, 72, 73, 74, 75, 76, 77, 78, 79, 80, 81, 82, 83, 84, 85, 136, 137, 138, 139, 140, 141, 142, 143, 144, 145, 146, 147, 148, 149, 150] (by decide +kernel) (by decide +kernel)
set_option maxRecDepth 20000 in
theorem gX5_readStatement_X5_isWord : GoodIn wsX5_readStatement (wsV RX5 70 RX5 yX5_isWord wsX5_isWord) := goodIn_app (goodIn_of _ (by decide +kernel)) ggX5_readStatement_X5_isWord
set_option maxRecDepth 20000 in
theorem ggX5_readStatement_X5_readTransfer : GoodIn wsX5_readStatement wsX5_readTransfer := goodIn_r _ [89, 90, 91, 92, 93, 9, 94, 95, 96, 97, 98, 99, 100, 1, 2, 11, 12, 101, 102, 103, 104, 6, 7, 8, 10, 13, 14, 15, 16, 17, 18, 19, 20, 21, 22, 105, 106, 107, 108, 109, 110, 111, 112, 113, 114, 33, 34, 35, 36, 37, 38, 39, 40, 41, 42, 43, 44, 45, 46, 47, 48, 49, 50, 51, 52, 53, 54, 55, 56, 57, 58, 59, 60, 61, 62, 63, 64, 65, 66, 67, 68, 69, 70, 71, 72, 73, 74, 75, 76, 77, 78, 79, 80, 81, 82, 83, 84, 85, 136, 137, 138, 139, 140, 141, 142, 143, 144, 145, 146, 147, 148, 149, 150] (by decide +kernel) (by decide +kernel)
set_option maxRecDepth 20000 in
theorem gX5_readStatement_X5_readTransfer : GoodIn wsX5_readStatement (wsV RX5 74 RX5 yX5_readTransfer wsX5_readTransfer) := goodIn_app (goodIn_of _ (by decide +kernel)) ggX5_readStatement_X5_readTransfer
set_option maxRecDepth 20000 in
theorem ggX5_readStatement_X5_readOptions : GoodIn wsX5_readStatement wsX5_readOptions := goodIn_r _ [118, 1, 6, 7, 8, 9, 10, 11, 2, 12, 13, 14, 15, 16, 17, 18, 19, 20, 21, 22, 119, 120, 121, 122, 4, 96, 33, 34, 35, 36, 37, 38, 39, 40, 41, 42, 43, 44, 45, 46, 47, 48, 49, 50, 51, 52, 53, 54, 55, 56, 57, 58, 59, 60, 61, 62, 63, 64, 65, 66, 67, 68, 69, 70, 71, 72, 73, 74, 75, 76, 77, 78, 79, 80, 81, 82, 83, 84, 85, 97, 98, 99, 100, 101, 102, 103, 104, 105, 106, 107, 108, 109, 110, 136, 137, 138, 139, 140, 141, 142, 143, 144, 145, 146, 147, 148, 149, 150, 151, 152, 153, 154, 155] (by decide +kernel) (by decide +kernel)
set_option maxRecDepth 20000 in
theorem gX5_readStatement_X5_readOptions : GoodIn wsX5_readStatement (wsV RX5 78 RX5 yX5_readOptions wsX5_readOptions) := goodIn_app (goodIn_of _ (by decide +kernel)) ggX5_readStatement_X5_readOptions
set_option maxRecDepth 20000 in
theorem ggX5_readStatement_X5_readSign : GoodIn wsX5_readStatement wsX5_readSign := goodIn_r _ [126, 1, 6, 7, 8, 9, 10, 11, 2, 12, 13, 14, 15, 16, 17, 18, 19, 20, 21, 22, 105, 106, 107, 108, 109, 110, 136, 137, 138, 139, 140, 141, 142, 143, 144, 145, 146, 147, 148, 149, 150] (by decide +kernel) (by decide +kernel)
set_option maxRecDepth 20000 in
theorem gX5_readStatement_X5_readSign : GoodIn wsX5_readStatement (wsV RX5 84 RX5 yX5_readSign wsX5_readSign) := goodIn_app (goodIn_of _ (by decide +kernel)) ggX5_readStatement_X5_readSign
set_option maxRecDepth 20000 in
theorem ggX5_readStatement_X5_readCombining : GoodIn wsX5_readStatement wsX5_readCombining := goodIn_r _ [130, 90, 131, 91, 92, 93, 9, 94, 95, 96, 97, 98, 99, 100, 1, 2, 11, 12, 101, 102, 103, 104, 6, 7, 8, 10, 13, 14, 15, 16, 17, 18, 19, 20, 21, 22, 105, 106, 107, 108, 109, 110, 111, 112, 113, 114, 33, 34, 35, 36, 37, 38, 39, 40, 41, 42, 43, 44, 45, 46, 47, 48, 49, 50, 51, 52, 53, 54, 55, 56, 57, 58, 59, 60, 61, 62, 63, 64, 65, 66, 67, 68, 69, 70, 71, 72, 73, 74, 75, 76, 77, 78, 79, 80, 81, 82, 83, 84, 85, 123, 124, 125, 126, 136, 137, 138, 139, 140, 141, 142, 143, 144, 145, 146, 147, 148, 149, 150] (by decide +kernel) (by decide +kernel)
set_option maxRecDepth 20000 in
theorem gX5_readStatement_X5_readCombining : GoodIn wsX5_readStatement (wsV RX5 89 RX5 yX5_readCombining wsX5_readCombining) := goodIn_app (goodIn_of _ (by decide +kernel)) ggX5_readStatement_X5_readCombining
set_option maxRecDepth 20000 in
theorem ggX5_readStatement_X5_readSingle : GoodIn wsX5_readStatement wsX5_readSingle := goodIn_r _ [135, 90, 91, 92, 93, 9, 94, 95, 96, 97, 98, 99, 100, 1, 2, 11, 12, 101, 102, 103, 104, 6, 7, 8, 10, 13, 14, 15, 16, 17, 18, 19, 20, 21, 22, 105, 106, 107, 108, 109, 110, 123, 124, 125, 126, 136, 137, 138, 139, 140, 141, 142, 143, 144, 145, 146, 147, 148, 149, 150] (by decide +kernel) (by decide +kernel)
set_option maxRecDepth 20000 in
theorem gX5_readStatement_X5_readSingle : GoodIn wsX5_readStatement (wsV RX5 100 RX5 yX5_readSingle wsX5_readSingle) := goodIn_app (goodIn_of _ (by decide +kernel)) ggX5_readStatement_X5_readSingle
set_option maxRecDepth 20000 in
theorem ggX5_readStatement_X5_refuse : GoodIn wsX5_readStatement wsX5_refuse := goodIn_r _ [108, 109, 2, 110, 136, 137, 138, 139, 140, 141, 142, 143, 144, 145, 146, 147, 148] (by decide +kernel) (by decide +kernel)
set_option maxRecDepth 20000 in
theorem gX5_readStatement_X5_refuse : GoodIn wsX5_readStatement (wsV RX5 107 RX5 yX5_refuse wsX5_refuse) := goodIn_app (goodIn_of _ (by decide +kernel)) ggX5_readStatement_X5_refuse
theorem dX5_readStatement_0 : decode cX5_readStatement 0 = .ok (.aload_n 0, 1) := by decide +kernel
theorem dX5_readStatement_1 : decode cX5_readStatement 1 = .ok (.invokevirtual 61, 3) := by decide +kernel
theorem dX5_readStatement_4 : decode cX5_readStatement 4 = .ok (.aload_n 0, 1) := by decide +kernel
theorem dX5_readStatement_5 : decode cX5_readStatement 5 = .ok (.getfield 29, 3) := by decide +kernel
theorem dX5_readStatement_8 : decode cX5_readStatement 8 = .ok (.ifCond .ne 5, 3) := by decide +kernel
theorem dX5_readStatement_11 : decode cX5_readStatement 11 = .ok (.iconst 0, 1) := by decide +kernel
theorem dX5_readStatement_12 : decode cX5_readStatement 12 = .ok (.ireturn, 1) := by decide +kernel
theorem dX5_readStatement_13 : decode cX5_readStatement 13 = .ok (.aload_n 0, 1) := by decide +kernel
theorem dX5_readStatement_14 : decode cX5_readStatement 14 = .ok (.aload_n 0, 1) := by decide +kernel
theorem dX5_readStatement_15 : decode cX5_readStatement 15 = .ok (.getfield 33, 3) := by decide +kernel
theorem dX5_readStatement_18 : decode cX5_readStatement 18 = .ok (.putfield 42, 3) := by decide +kernel
theorem dX5_readStatement_21 : decode cX5_readStatement 21 = .ok (.aload_n 0, 1) := by decide +kernel
theorem dX5_readStatement_22 : decode cX5_readStatement 22 = .ok (.getfield 25, 3) := by decide +kernel
theorem dX5_readStatement_25 : decode cX5_readStatement 25 = .ok (.aload_n 1, 1) := by decide +kernel
theorem dX5_readStatement_26 : decode cX5_readStatement 26 = .ok (.invokevirtual 64, 3) := by decide +kernel
theorem dX5_readStatement_29 : decode cX5_readStatement 29 = .ok (.aload_n 0, 1) := by decide +kernel
theorem dX5_readStatement_30 : decode cX5_readStatement 30 = .ok (.ldc 68, 2) := by decide +kernel
theorem dX5_readStatement_32 : decode cX5_readStatement 32 = .ok (.invokevirtual 70, 3) := by decide +kernel
theorem dX5_readStatement_35 : decode cX5_readStatement 35 = .ok (.ifCond .eq 24, 3) := by decide +kernel
theorem dX5_readStatement_38 : decode cX5_readStatement 38 = .ok (.aload_n 0, 1) := by decide +kernel
theorem dX5_readStatement_39 : decode cX5_readStatement 39 = .ok (.iconst 0, 1) := by decide +kernel
theorem dX5_readStatement_40 : decode cX5_readStatement 40 = .ok (.invokevirtual 74, 3) := by decide +kernel
theorem dX5_readStatement_43 : decode cX5_readStatement 43 = .ok (.ifCond .eq 14, 3) := by decide +kernel
theorem dX5_readStatement_46 : decode cX5_readStatement 46 = .ok (.aload_n 0, 1) := by decide +kernel
theorem dX5_readStatement_47 : decode cX5_readStatement 47 = .ok (.invokevirtual 78, 3) := by decide +kernel
theorem dX5_readStatement_50 : decode cX5_readStatement 50 = .ok (.ifCond .eq 7, 3) := by decide +kernel
theorem dX5_readStatement_53 : decode cX5_readStatement 53 = .ok (.iconst 1, 1) := by decide +kernel
theorem dX5_readStatement_54 : decode cX5_readStatement 54 = .ok (.goto 4, 3) := by decide +kernel
theorem dX5_readStatement_57 : decode cX5_readStatement 57 = .ok (.iconst 0, 1) := by decide +kernel
theorem dX5_readStatement_58 : decode cX5_readStatement 58 = .ok (.ireturn, 1) := by decide +kernel
theorem dX5_readStatement_59 : decode cX5_readStatement 59 = .ok (.aload_n 0, 1) := by decide +kernel
theorem dX5_readStatement_60 : decode cX5_readStatement 60 = .ok (.ldc 82, 2) := by decide +kernel
theorem dX5_readStatement_62 : decode cX5_readStatement 62 = .ok (.invokevirtual 70, 3) := by decide +kernel
theorem dX5_readStatement_65 : decode cX5_readStatement 65 = .ok (.ifCond .eq 24, 3) := by decide +kernel
theorem dX5_readStatement_68 : decode cX5_readStatement 68 = .ok (.aload_n 0, 1) := by decide +kernel
theorem dX5_readStatement_69 : decode cX5_readStatement 69 = .ok (.iconst 2, 1) := by decide +kernel
theorem dX5_readStatement_70 : decode cX5_readStatement 70 = .ok (.invokevirtual 74, 3) := by decide +kernel
theorem dX5_readStatement_73 : decode cX5_readStatement 73 = .ok (.ifCond .eq 14, 3) := by decide +kernel
theorem dX5_readStatement_76 : decode cX5_readStatement 76 = .ok (.aload_n 0, 1) := by decide +kernel
theorem dX5_readStatement_77 : decode cX5_readStatement 77 = .ok (.invokevirtual 84, 3) := by decide +kernel
theorem dX5_readStatement_80 : decode cX5_readStatement 80 = .ok (.ifCond .eq 7, 3) := by decide +kernel
theorem dX5_readStatement_83 : decode cX5_readStatement 83 = .ok (.iconst 1, 1) := by decide +kernel
theorem dX5_readStatement_84 : decode cX5_readStatement 84 = .ok (.goto 4, 3) := by decide +kernel
theorem dX5_readStatement_87 : decode cX5_readStatement 87 = .ok (.iconst 0, 1) := by decide +kernel
theorem dX5_readStatement_88 : decode cX5_readStatement 88 = .ok (.ireturn, 1) := by decide +kernel
theorem dX5_readStatement_89 : decode cX5_readStatement 89 = .ok (.aload_n 0, 1) := by decide +kernel
theorem dX5_readStatement_90 : decode cX5_readStatement 90 = .ok (.ldc 87, 2) := by decide +kernel
theorem dX5_readStatement_92 : decode cX5_readStatement 92 = .ok (.invokevirtual 70, 3) := by decide +kernel
theorem dX5_readStatement_95 : decode cX5_readStatement 95 = .ok (.ifCond .eq 9, 3) := by decide +kernel
theorem dX5_readStatement_98 : decode cX5_readStatement 98 = .ok (.aload_n 0, 1) := by decide +kernel
theorem dX5_readStatement_99 : decode cX5_readStatement 99 = .ok (.iconst 0, 1) := by decide +kernel
theorem dX5_readStatement_100 : decode cX5_readStatement 100 = .ok (.invokevirtual 89, 3) := by decide +kernel
theorem dX5_readStatement_103 : decode cX5_readStatement 103 = .ok (.ireturn, 1) := by decide +kernel
theorem dX5_readStatement_104 : decode cX5_readStatement 104 = .ok (.aload_n 0, 1) := by decide +kernel
theorem dX5_readStatement_105 : decode cX5_readStatement 105 = .ok (.ldc 92, 2) := by decide +kernel
theorem dX5_readStatement_107 : decode cX5_readStatement 107 = .ok (.invokevirtual 70, 3) := by decide +kernel
theorem dX5_readStatement_110 : decode cX5_readStatement 110 = .ok (.ifCond .eq 9, 3) := by decide +kernel
theorem dX5_readStatement_113 : decode cX5_readStatement 113 = .ok (.aload_n 0, 1) := by decide +kernel
theorem dX5_readStatement_114 : decode cX5_readStatement 114 = .ok (.iconst 1, 1) := by decide +kernel
theorem dX5_readStatement_115 : decode cX5_readStatement 115 = .ok (.invokevirtual 89, 3) := by decide +kernel
theorem dX5_readStatement_118 : decode cX5_readStatement 118 = .ok (.ireturn, 1) := by decide +kernel
theorem dX5_readStatement_119 : decode cX5_readStatement 119 = .ok (.aload_n 0, 1) := by decide +kernel
theorem dX5_readStatement_120 : decode cX5_readStatement 120 = .ok (.ldc 94, 2) := by decide +kernel
theorem dX5_readStatement_122 : decode cX5_readStatement 122 = .ok (.invokevirtual 70, 3) := by decide +kernel
theorem dX5_readStatement_125 : decode cX5_readStatement 125 = .ok (.ifCond .eq 9, 3) := by decide +kernel
theorem dX5_readStatement_128 : decode cX5_readStatement 128 = .ok (.aload_n 0, 1) := by decide +kernel
theorem dX5_readStatement_129 : decode cX5_readStatement 129 = .ok (.iconst 2, 1) := by decide +kernel
theorem dX5_readStatement_130 : decode cX5_readStatement 130 = .ok (.invokevirtual 89, 3) := by decide +kernel
theorem dX5_readStatement_133 : decode cX5_readStatement 133 = .ok (.ireturn, 1) := by decide +kernel
theorem dX5_readStatement_134 : decode cX5_readStatement 134 = .ok (.aload_n 0, 1) := by decide +kernel
theorem dX5_readStatement_135 : decode cX5_readStatement 135 = .ok (.aload_n 0, 1) := by decide +kernel
theorem dX5_readStatement_136 : decode cX5_readStatement 136 = .ok (.ldc 96, 2) := by decide +kernel
theorem dX5_readStatement_138 : decode cX5_readStatement 138 = .ok (.invokevirtual 70, 3) := by decide +kernel
theorem dX5_readStatement_141 : decode cX5_readStatement 141 = .ok (.putfield 51, 3) := by decide +kernel
theorem dX5_readStatement_144 : decode cX5_readStatement 144 = .ok (.aload_n 0, 1) := by decide +kernel
theorem dX5_readStatement_145 : decode cX5_readStatement 145 = .ok (.getfield 51, 3) := by decide +kernel
theorem dX5_readStatement_148 : decode cX5_readStatement 148 = .ok (.ifCond .ne 12, 3) := by decide +kernel
theorem dX5_readStatement_151 : decode cX5_readStatement 151 = .ok (.aload_n 0, 1) := by decide +kernel
theorem dX5_readStatement_152 : decode cX5_readStatement 152 = .ok (.ldc 98, 2) := by decide +kernel
theorem dX5_readStatement_154 : decode cX5_readStatement 154 = .ok (.invokevirtual 70, 3) := by decide +kernel
theorem dX5_readStatement_157 : decode cX5_readStatement 157 = .ok (.ifCond .eq 9, 3) := by decide +kernel
theorem dX5_readStatement_160 : decode cX5_readStatement 160 = .ok (.aload_n 0, 1) := by decide +kernel
theorem dX5_readStatement_161 : decode cX5_readStatement 161 = .ok (.iconst 3, 1) := by decide +kernel
theorem dX5_readStatement_162 : decode cX5_readStatement 162 = .ok (.invokevirtual 100, 3) := by decide +kernel
theorem dX5_readStatement_165 : decode cX5_readStatement 165 = .ok (.ireturn, 1) := by decide +kernel
theorem dX5_readStatement_166 : decode cX5_readStatement 166 = .ok (.aload_n 0, 1) := by decide +kernel
theorem dX5_readStatement_167 : decode cX5_readStatement 167 = .ok (.ldc 103, 2) := by decide +kernel
theorem dX5_readStatement_169 : decode cX5_readStatement 169 = .ok (.invokevirtual 70, 3) := by decide +kernel
theorem dX5_readStatement_172 : decode cX5_readStatement 172 = .ok (.ifCond .eq 9, 3) := by decide +kernel
theorem dX5_readStatement_175 : decode cX5_readStatement 175 = .ok (.aload_n 0, 1) := by decide +kernel
theorem dX5_readStatement_176 : decode cX5_readStatement 176 = .ok (.iconst 4, 1) := by decide +kernel
theorem dX5_readStatement_177 : decode cX5_readStatement 177 = .ok (.invokevirtual 100, 3) := by decide +kernel
theorem dX5_readStatement_180 : decode cX5_readStatement 180 = .ok (.ireturn, 1) := by decide +kernel
theorem dX5_readStatement_181 : decode cX5_readStatement 181 = .ok (.aload_n 0, 1) := by decide +kernel
theorem dX5_readStatement_182 : decode cX5_readStatement 182 = .ok (.ldc 105, 2) := by decide +kernel
theorem dX5_readStatement_184 : decode cX5_readStatement 184 = .ok (.invokevirtual 70, 3) := by decide +kernel
theorem dX5_readStatement_187 : decode cX5_readStatement 187 = .ok (.ifCond .eq 9, 3) := by decide +kernel
theorem dX5_readStatement_190 : decode cX5_readStatement 190 = .ok (.aload_n 0, 1) := by decide +kernel
theorem dX5_readStatement_191 : decode cX5_readStatement 191 = .ok (.iconst 5, 1) := by decide +kernel
theorem dX5_readStatement_192 : decode cX5_readStatement 192 = .ok (.invokevirtual 100, 3) := by decide +kernel
theorem dX5_readStatement_195 : decode cX5_readStatement 195 = .ok (.ireturn, 1) := by decide +kernel
theorem dX5_readStatement_196 : decode cX5_readStatement 196 = .ok (.aload_n 0, 1) := by decide +kernel
theorem dX5_readStatement_197 : decode cX5_readStatement 197 = .ok (.iconst 1, 1) := by decide +kernel
theorem dX5_readStatement_198 : decode cX5_readStatement 198 = .ok (.invokevirtual 107, 3) := by decide +kernel
theorem dX5_readStatement_201 : decode cX5_readStatement 201 = .ok (.ireturn, 1) := by decide +kernel
set_option maxRecDepth 20000 in
theorem ggX5_readTransfer_X5_readTape : GoodIn wsX5_readTransfer wsX5_readTape := goodIn_r _ [6, 7, 8, 9, 10, 11, 5, 12, 13, 14, 15, 16, 17, 18, 19, 20, 21, 22, 23, 24, 25, 26, 27, 28, 29, 30, 31, 32, 33, 34, 35, 36, 37, 38, 39, 40, 98, 99, 100, 101, 102, 103, 104, 105, 106, 107, 108, 109, 110, 111, 112] (by decide +kernel) (by decide +kernel)
set_option maxRecDepth 20000 in
theorem gX5_readTransfer_X5_readTape : GoodIn wsX5_readTransfer (wsV RX5 110 RX5 yX5_readTape wsX5_readTape) := goodIn_app (goodIn_of _ (by decide +kernel)) ggX5_readTransfer_X5_readTape
set_option maxRecDepth 20000 in
theorem ggX5_readTransfer_X5_readInto : GoodIn wsX5_readTransfer wsX5_readInto := goodIn_r _ [44, 21, 22, 23, 5, 24, 15, 14, 16, 13, 25, 26, 27, 28, 29, 30, 31, 32, 33, 34, 45, 46, 47, 48, 49, 50, 51, 52, 53, 54, 55, 56, 57, 58, 59, 60, 61, 62, 63, 64, 65, 66, 67, 68, 69, 70, 71, 72, 73, 74, 75, 76, 77, 78, 79, 80, 81, 82, 83, 84, 85, 86, 87, 88, 89, 90, 91, 92, 93, 94, 95, 96, 97, 35, 36, 37, 38, 39, 40, 98, 99, 100, 101, 102, 103, 104, 105, 106, 107, 108, 109, 110, 111, 112] (by decide +kernel) (by decide +kernel)
set_option maxRecDepth 20000 in
theorem gX5_readTransfer_X5_readInto : GoodIn wsX5_readTransfer (wsV RX5 113 RX5 yX5_readInto wsX5_readInto) := goodIn_app (goodIn_of _ (by decide +kernel)) ggX5_readTransfer_X5_readInto
theorem dX5_readTransfer_0 : decode cX5_readTransfer 0 = .ok (.aload_n 0, 1) := by decide +kernel
theorem dX5_readTransfer_1 : decode cX5_readTransfer 1 = .ok (.iload_n 1, 1) := by decide +kernel
theorem dX5_readTransfer_2 : decode cX5_readTransfer 2 = .ok (.putfield 45, 3) := by decide +kernel
theorem dX5_readTransfer_5 : decode cX5_readTransfer 5 = .ok (.aload_n 0, 1) := by decide +kernel
theorem dX5_readTransfer_6 : decode cX5_readTransfer 6 = .ok (.iconst 0, 1) := by decide +kernel
theorem dX5_readTransfer_7 : decode cX5_readTransfer 7 = .ok (.invokevirtual 110, 3) := by decide +kernel
theorem dX5_readTransfer_10 : decode cX5_readTransfer 10 = .ok (.ifCond .eq 22, 3) := by decide +kernel
theorem dX5_readTransfer_13 : decode cX5_readTransfer 13 = .ok (.aload_n 0, 1) := by decide +kernel
theorem dX5_readTransfer_14 : decode cX5_readTransfer 14 = .ok (.invokevirtual 113, 3) := by decide +kernel
theorem dX5_readTransfer_17 : decode cX5_readTransfer 17 = .ok (.ifCond .eq 15, 3) := by decide +kernel
theorem dX5_readTransfer_20 : decode cX5_readTransfer 20 = .ok (.aload_n 0, 1) := by decide +kernel
theorem dX5_readTransfer_21 : decode cX5_readTransfer 21 = .ok (.iconst 2, 1) := by decide +kernel
theorem dX5_readTransfer_22 : decode cX5_readTransfer 22 = .ok (.invokevirtual 110, 3) := by decide +kernel
theorem dX5_readTransfer_25 : decode cX5_readTransfer 25 = .ok (.ifCond .eq 7, 3) := by decide +kernel
theorem dX5_readTransfer_28 : decode cX5_readTransfer 28 = .ok (.iconst 1, 1) := by decide +kernel
theorem dX5_readTransfer_29 : decode cX5_readTransfer 29 = .ok (.goto 4, 3) := by decide +kernel
theorem dX5_readTransfer_32 : decode cX5_readTransfer 32 = .ok (.iconst 0, 1) := by decide +kernel
theorem dX5_readTransfer_33 : decode cX5_readTransfer 33 = .ok (.ireturn, 1) := by decide +kernel
set_option maxRecDepth 20000 in
theorem ggX5_readCombining_X5_readTape : GoodIn wsX5_readCombining wsX5_readTape := goodIn_r _ [7, 8, 9, 10, 11, 12, 6, 13, 14, 15, 16, 17, 18, 19, 20, 21, 22, 23, 24, 25, 26, 27, 28, 29, 30, 31, 32, 33, 34, 35, 36, 37, 38, 39, 40, 41, 103, 104, 105, 106, 107, 108, 109, 110, 111, 112, 113, 114, 115, 116, 117] (by decide +kernel) (by decide +kernel)
set_option maxRecDepth 20000 in
theorem gX5_readCombining_X5_readTape : GoodIn wsX5_readCombining (wsV RX5 110 RX5 yX5_readTape wsX5_readTape) := goodIn_app (goodIn_of _ (by decide +kernel)) ggX5_readCombining_X5_readTape
set_option maxRecDepth 20000 in
theorem ggX5_readCombining_X5_readInto : GoodIn wsX5_readCombining wsX5_readInto := goodIn_r _ [45, 22, 23, 24, 6, 25, 16, 15, 17, 14, 26, 27, 28, 29, 30, 31, 32, 33, 34, 35, 46, 47, 48, 49, 50, 51, 52, 53, 54, 55, 56, 57, 58, 59, 60, 61, 62, 63, 64, 65, 66, 67, 68, 69, 70, 71, 72, 73, 74, 75, 76, 77, 78, 79, 80, 81, 82, 83, 84, 85, 86, 87, 88, 89, 90, 91, 92, 93, 94, 95, 96, 97, 98, 36, 37, 38, 39, 40, 41, 103, 104, 105, 106, 107, 108, 109, 110, 111, 112, 113, 114, 115, 116, 117] (by decide +kernel) (by decide +kernel)
set_option maxRecDepth 20000 in
theorem gX5_readCombining_X5_readInto : GoodIn wsX5_readCombining (wsV RX5 113 RX5 yX5_readInto wsX5_readInto) := goodIn_app (goodIn_of _ (by decide +kernel)) ggX5_readCombining_X5_readInto
set_option maxRecDepth 20000 in
theorem ggX5_readCombining_X5_readSign : GoodIn wsX5_readCombining wsX5_readSign := goodIn_r _ [102, 14, 22, 23, 24, 6, 25, 16, 15, 17, 26, 27, 28, 29, 30, 31, 32, 33, 34, 35, 36, 37, 38, 39, 40, 41, 103, 104, 105, 106, 107, 108, 109, 110, 111, 112, 113, 114, 115, 116, 117] (by decide +kernel) (by decide +kernel)
set_option maxRecDepth 20000 in
theorem gX5_readCombining_X5_readSign : GoodIn wsX5_readCombining (wsV RX5 84 RX5 yX5_readSign wsX5_readSign) := goodIn_app (goodIn_of _ (by decide +kernel)) ggX5_readCombining_X5_readSign
theorem dX5_readCombining_0 : decode cX5_readCombining 0 = .ok (.aload_n 0, 1) := by decide +kernel
theorem dX5_readCombining_1 : decode cX5_readCombining 1 = .ok (.iconst 1, 1) := by decide +kernel
theorem dX5_readCombining_2 : decode cX5_readCombining 2 = .ok (.putfield 45, 3) := by decide +kernel
theorem dX5_readCombining_5 : decode cX5_readCombining 5 = .ok (.aload_n 0, 1) := by decide +kernel
theorem dX5_readCombining_6 : decode cX5_readCombining 6 = .ok (.iload_n 1, 1) := by decide +kernel
theorem dX5_readCombining_7 : decode cX5_readCombining 7 = .ok (.putfield 48, 3) := by decide +kernel
theorem dX5_readCombining_10 : decode cX5_readCombining 10 = .ok (.aload_n 0, 1) := by decide +kernel
theorem dX5_readCombining_11 : decode cX5_readCombining 11 = .ok (.iconst 0, 1) := by decide +kernel
theorem dX5_readCombining_12 : decode cX5_readCombining 12 = .ok (.invokevirtual 110, 3) := by decide +kernel
theorem dX5_readCombining_15 : decode cX5_readCombining 15 = .ok (.ifCond .eq 37, 3) := by decide +kernel
theorem dX5_readCombining_18 : decode cX5_readCombining 18 = .ok (.aload_n 0, 1) := by decide +kernel
theorem dX5_readCombining_19 : decode cX5_readCombining 19 = .ok (.iconst 1, 1) := by decide +kernel
theorem dX5_readCombining_20 : decode cX5_readCombining 20 = .ok (.invokevirtual 110, 3) := by decide +kernel
theorem dX5_readCombining_23 : decode cX5_readCombining 23 = .ok (.ifCond .eq 29, 3) := by decide +kernel
theorem dX5_readCombining_26 : decode cX5_readCombining 26 = .ok (.aload_n 0, 1) := by decide +kernel
theorem dX5_readCombining_27 : decode cX5_readCombining 27 = .ok (.invokevirtual 113, 3) := by decide +kernel
theorem dX5_readCombining_30 : decode cX5_readCombining 30 = .ok (.ifCond .eq 22, 3) := by decide +kernel
theorem dX5_readCombining_33 : decode cX5_readCombining 33 = .ok (.aload_n 0, 1) := by decide +kernel
theorem dX5_readCombining_34 : decode cX5_readCombining 34 = .ok (.iconst 2, 1) := by decide +kernel
theorem dX5_readCombining_35 : decode cX5_readCombining 35 = .ok (.invokevirtual 110, 3) := by decide +kernel
theorem dX5_readCombining_38 : decode cX5_readCombining 38 = .ok (.ifCond .eq 14, 3) := by decide +kernel
theorem dX5_readCombining_41 : decode cX5_readCombining 41 = .ok (.aload_n 0, 1) := by decide +kernel
theorem dX5_readCombining_42 : decode cX5_readCombining 42 = .ok (.invokevirtual 84, 3) := by decide +kernel
theorem dX5_readCombining_45 : decode cX5_readCombining 45 = .ok (.ifCond .eq 7, 3) := by decide +kernel
theorem dX5_readCombining_48 : decode cX5_readCombining 48 = .ok (.iconst 1, 1) := by decide +kernel
theorem dX5_readCombining_49 : decode cX5_readCombining 49 = .ok (.goto 4, 3) := by decide +kernel
theorem dX5_readCombining_52 : decode cX5_readCombining 52 = .ok (.iconst 0, 1) := by decide +kernel
theorem dX5_readCombining_53 : decode cX5_readCombining 53 = .ok (.ireturn, 1) := by decide +kernel
set_option maxRecDepth 20000 in
theorem ggX5_readSingle_X5_readTape : GoodIn wsX5_readSingle wsX5_readTape := goodIn_r _ [6, 7, 8, 9, 10, 11, 5, 12, 13, 14, 15, 16, 17, 18, 19, 20, 21, 22, 23, 24, 25, 26, 27, 28, 29, 30, 31, 32, 33, 34, 35, 36, 37, 38, 39, 40, 45, 46, 47, 48, 49, 50, 51, 52, 53, 54, 55, 56, 57, 58, 59] (by decide +kernel) (by decide +kernel)
set_option maxRecDepth 20000 in
theorem gX5_readSingle_X5_readTape : GoodIn wsX5_readSingle (wsV RX5 110 RX5 yX5_readTape wsX5_readTape) := goodIn_app (goodIn_of _ (by decide +kernel)) ggX5_readSingle_X5_readTape
set_option maxRecDepth 20000 in
theorem ggX5_readSingle_X5_readSign : GoodIn wsX5_readSingle wsX5_readSign := goodIn_r _ [44, 13, 21, 22, 23, 5, 24, 15, 14, 16, 25, 26, 27, 28, 29, 30, 31, 32, 33, 34, 35, 36, 37, 38, 39, 40, 45, 46, 47, 48, 49, 50, 51, 52, 53, 54, 55, 56, 57, 58, 59] (by decide +kernel) (by decide +kernel)
set_option maxRecDepth 20000 in
theorem gX5_readSingle_X5_readSign : GoodIn wsX5_readSingle (wsV RX5 84 RX5 yX5_readSign wsX5_readSign) := goodIn_app (goodIn_of _ (by decide +kernel)) ggX5_readSingle_X5_readSign
theorem dX5_readSingle_0 : decode cX5_readSingle 0 = .ok (.aload_n 0, 1) := by decide +kernel
theorem dX5_readSingle_1 : decode cX5_readSingle 1 = .ok (.iload_n 1, 1) := by decide +kernel
theorem dX5_readSingle_2 : decode cX5_readSingle 2 = .ok (.putfield 45, 3) := by decide +kernel
theorem dX5_readSingle_5 : decode cX5_readSingle 5 = .ok (.aload_n 0, 1) := by decide +kernel
theorem dX5_readSingle_6 : decode cX5_readSingle 6 = .ok (.iconst 0, 1) := by decide +kernel
theorem dX5_readSingle_7 : decode cX5_readSingle 7 = .ok (.invokevirtual 110, 3) := by decide +kernel
theorem dX5_readSingle_10 : decode cX5_readSingle 10 = .ok (.ifCond .eq 14, 3) := by decide +kernel
theorem dX5_readSingle_13 : decode cX5_readSingle 13 = .ok (.aload_n 0, 1) := by decide +kernel
theorem dX5_readSingle_14 : decode cX5_readSingle 14 = .ok (.invokevirtual 84, 3) := by decide +kernel
theorem dX5_readSingle_17 : decode cX5_readSingle 17 = .ok (.ifCond .eq 7, 3) := by decide +kernel
theorem dX5_readSingle_20 : decode cX5_readSingle 20 = .ok (.iconst 1, 1) := by decide +kernel
theorem dX5_readSingle_21 : decode cX5_readSingle 21 = .ok (.goto 4, 3) := by decide +kernel
theorem dX5_readSingle_24 : decode cX5_readSingle 24 = .ok (.iconst 0, 1) := by decide +kernel
theorem dX5_readSingle_25 : decode cX5_readSingle 25 = .ok (.ireturn, 1) := by decide +kernel
set_option maxRecDepth 20000 in
theorem ggX5_readTape_X5_readNumber : GoodIn wsX5_readTape wsX5_readNumber := goodIn_r _ [7, 8, 2, 9, 10, 11, 12, 13, 14, 15, 16, 17, 18, 6, 19, 20, 21, 22, 23, 24, 25, 26, 27, 28, 29, 30, 31, 32, 33, 34, 35, 36, 37, 38, 39, 40, 41, 42, 43, 44, 45, 46, 47, 48, 49, 50] (by decide +kernel) (by decide +kernel)
set_option maxRecDepth 20000 in
theorem gX5_readTape_X5_readNumber : GoodIn wsX5_readTape (wsV RX5 116 RX5 yX5_readNumber wsX5_readNumber) := goodIn_app (goodIn_of _ (by decide +kernel)) ggX5_readTape_X5_readNumber
theorem dX5_readTape_0 : decode cX5_readTape 0 = .ok (.aload_n 0, 1) := by decide +kernel
theorem dX5_readTape_1 : decode cX5_readTape 1 = .ok (.iconst 0, 1) := by decide +kernel
theorem dX5_readTape_2 : decode cX5_readTape 2 = .ok (.bipush 7, 2) := by decide +kernel
theorem dX5_readTape_4 : decode cX5_readTape 4 = .ok (.invokevirtual 116, 3) := by decide +kernel
theorem dX5_readTape_7 : decode cX5_readTape 7 = .ok (.ifCond .ne 5, 3) := by decide +kernel
theorem dX5_readTape_10 : decode cX5_readTape 10 = .ok (.iconst 0, 1) := by decide +kernel
theorem dX5_readTape_11 : decode cX5_readTape 11 = .ok (.ireturn, 1) := by decide +kernel
theorem dX5_readTape_12 : decode cX5_readTape 12 = .ok (.iload_n 1, 1) := by decide +kernel
theorem dX5_readTape_13 : decode cX5_readTape 13 = .ok (.ifCond .lt 22, 3) := by decide +kernel
theorem dX5_readTape_16 : decode cX5_readTape 16 = .ok (.iload_n 1, 1) := by decide +kernel
theorem dX5_readTape_17 : decode cX5_readTape 17 = .ok (.aload_n 0, 1) := by decide +kernel
theorem dX5_readTape_18 : decode cX5_readTape 18 = .ok (.getfield 18, 3) := by decide +kernel
theorem dX5_readTape_21 : decode cX5_readTape 21 = .ok (.arraylength, 1) := by decide +kernel
theorem dX5_readTape_22 : decode cX5_readTape 22 = .ok (.if_icmp .ge 13, 3) := by decide +kernel
theorem dX5_readTape_25 : decode cX5_readTape 25 = .ok (.aload_n 0, 1) := by decide +kernel
theorem dX5_readTape_26 : decode cX5_readTape 26 = .ok (.getfield 18, 3) := by decide +kernel
theorem dX5_readTape_29 : decode cX5_readTape 29 = .ok (.iload_n 1, 1) := by decide +kernel
theorem dX5_readTape_30 : decode cX5_readTape 30 = .ok (.aload_n 0, 1) := by decide +kernel
theorem dX5_readTape_31 : decode cX5_readTape 31 = .ok (.getfield 39, 3) := by decide +kernel
theorem dX5_readTape_34 : decode cX5_readTape 34 = .ok (.iastore, 1) := by decide +kernel
theorem dX5_readTape_35 : decode cX5_readTape 35 = .ok (.iconst 1, 1) := by decide +kernel
theorem dX5_readTape_36 : decode cX5_readTape 36 = .ok (.ireturn, 1) := by decide +kernel
set_option maxRecDepth 20000 in
theorem ggX5_readInto_X5_readWord : GoodIn wsX5_readInto wsX5_readWord := goodIn_r _ [5, 6, 7, 8, 9, 10, 11, 12, 13, 14, 15, 16, 17, 18, 4, 19, 79, 80, 81, 82, 83, 84, 85, 86, 87, 88, 89, 90, 91, 92, 93] (by decide +kernel) (by decide +kernel)
set_option maxRecDepth 20000 in
theorem gX5_readInto_X5_readWord : GoodIn wsX5_readInto (wsV RX5 61 RX5 yX5_readWord wsX5_readWord) := goodIn_app (goodIn_of _ (by decide +kernel)) ggX5_readInto_X5_readWord
set_option maxRecDepth 20000 in
theorem ggX5_readInto_X5_isWord : GoodIn wsX5_readInto wsX5_isWord := goodIn_r _ [23, 9, 6, 7, 8, 24, 25, 26, 27, 28, 29, 30, 31, 32, 33, 34, 35, 10, 11, 12, 13, 14, 15, 16, 36, 37, 38, 39, 40, 41, 42, 43, 44, 45, 46, 47, 48, 49, 50, 51, 52, 53, 54, 55, 56, 57, 58, 59, 60, 61, 62, 63, 64, 65, 66, 67, 68, 69, 70, 71, 72, 79, 80, 81, 82, 83, 84, 85, 86, 87, 88, 89, 90, 91, 92, 93] (by decide +kernel) (by decide +kernel)
set_option maxRecDepth 20000 in
theorem gX5_readInto_X5_isWord : GoodIn wsX5_readInto (wsV RX5 70 RX5 yX5_isWord wsX5_isWord) := goodIn_app (goodIn_of _ (by decide +kernel)) ggX5_readInto_X5_isWord
set_option maxRecDepth 20000 in
theorem ggX5_readInto_X5_refuse : GoodIn wsX5_readInto wsX5_refuse := goodIn_r _ [76, 77, 7, 78, 79, 80, 81, 82, 83, 84, 85, 86, 87, 88, 89, 90, 91] (by decide +kernel) (by decide +kernel)
set_option maxRecDepth 20000 in
theorem gX5_readInto_X5_refuse : GoodIn wsX5_readInto (wsV RX5 107 RX5 yX5_refuse wsX5_refuse) := goodIn_app (goodIn_of _ (by decide +kernel)) ggX5_readInto_X5_refuse
theorem dX5_readInto_0 : decode cX5_readInto 0 = .ok (.aload_n 0, 1) := by decide +kernel
theorem dX5_readInto_1 : decode cX5_readInto 1 = .ok (.invokevirtual 61, 3) := by decide +kernel
theorem dX5_readInto_4 : decode cX5_readInto 4 = .ok (.aload_n 0, 1) := by decide +kernel
theorem dX5_readInto_5 : decode cX5_readInto 5 = .ok (.ldc 120, 2) := by decide +kernel
theorem dX5_readInto_7 : decode cX5_readInto 7 = .ok (.invokevirtual 70, 3) := by decide +kernel
theorem dX5_readInto_10 : decode cX5_readInto 10 = .ok (.ifCond .ne 11, 3) := by decide +kernel
theorem dX5_readInto_13 : decode cX5_readInto 13 = .ok (.aload_n 0, 1) := by decide +kernel
theorem dX5_readInto_14 : decode cX5_readInto 14 = .ok (.iconst 1, 1) := by decide +kernel
theorem dX5_readInto_15 : decode cX5_readInto 15 = .ok (.invokevirtual 107, 3) := by decide +kernel
theorem dX5_readInto_18 : decode cX5_readInto 18 = .ok (.ifCond .eq 7, 3) := by decide +kernel
theorem dX5_readInto_21 : decode cX5_readInto 21 = .ok (.iconst 1, 1) := by decide +kernel
theorem dX5_readInto_22 : decode cX5_readInto 22 = .ok (.goto 4, 3) := by decide +kernel
theorem dX5_readInto_25 : decode cX5_readInto 25 = .ok (.iconst 0, 1) := by decide +kernel
theorem dX5_readInto_26 : decode cX5_readInto 26 = .ok (.ireturn, 1) := by decide +kernel
set_option maxRecDepth 20000 in
theorem ggX5_readSign_X5_readWord : GoodIn wsX5_readSign wsX5_readWord := goodIn_r _ [6, 7, 8, 9, 1, 10, 11, 12, 13, 14, 15, 16, 17, 18, 5, 19, 26, 27, 28, 29, 30, 31, 32, 33, 34, 35, 36, 37, 38, 39, 40] (by decide +kernel) (by decide +kernel)
set_option maxRecDepth 20000 in
theorem gX5_readSign_X5_readWord : GoodIn wsX5_readSign (wsV RX5 61 RX5 yX5_readWord wsX5_readWord) := goodIn_app (goodIn_of _ (by decide +kernel)) ggX5_readSign_X5_readWord
set_option maxRecDepth 20000 in
theorem ggX5_readSign_X5_refuse : GoodIn wsX5_readSign wsX5_refuse := goodIn_r _ [23, 24, 8, 25, 26, 27, 28, 29, 30, 31, 32, 33, 34, 35, 36, 37, 38] (by decide +kernel) (by decide +kernel)
set_option maxRecDepth 20000 in
theorem gX5_readSign_X5_refuse : GoodIn wsX5_readSign (wsV RX5 107 RX5 yX5_refuse wsX5_refuse) := goodIn_app (goodIn_of _ (by decide +kernel)) ggX5_readSign_X5_refuse
theorem dX5_readSign_0 : decode cX5_readSign 0 = .ok (.aload_n 0, 1) := by decide +kernel
theorem dX5_readSign_1 : decode cX5_readSign 1 = .ok (.invokevirtual 61, 3) := by decide +kernel
theorem dX5_readSign_4 : decode cX5_readSign 4 = .ok (.aload_n 0, 1) := by decide +kernel
theorem dX5_readSign_5 : decode cX5_readSign 5 = .ok (.getfield 29, 3) := by decide +kernel
theorem dX5_readSign_8 : decode cX5_readSign 8 = .ok (.iconst 3, 1) := by decide +kernel
theorem dX5_readSign_9 : decode cX5_readSign 9 = .ok (.if_icmp .eq 11, 3) := by decide +kernel
theorem dX5_readSign_12 : decode cX5_readSign 12 = .ok (.aload_n 0, 1) := by decide +kernel
theorem dX5_readSign_13 : decode cX5_readSign 13 = .ok (.iconst 1, 1) := by decide +kernel
theorem dX5_readSign_14 : decode cX5_readSign 14 = .ok (.invokevirtual 107, 3) := by decide +kernel
theorem dX5_readSign_17 : decode cX5_readSign 17 = .ok (.ifCond .eq 7, 3) := by decide +kernel
theorem dX5_readSign_20 : decode cX5_readSign 20 = .ok (.iconst 1, 1) := by decide +kernel
theorem dX5_readSign_21 : decode cX5_readSign 21 = .ok (.goto 4, 3) := by decide +kernel
theorem dX5_readSign_24 : decode cX5_readSign 24 = .ok (.iconst 0, 1) := by decide +kernel
theorem dX5_readSign_25 : decode cX5_readSign 25 = .ok (.ireturn, 1) := by decide +kernel
set_option maxRecDepth 20000 in
theorem ggX5_readOptions_X5_readWord : GoodIn wsX5_readOptions wsX5_readWord := goodIn_r _ [6, 7, 8, 9, 1, 10, 11, 12, 13, 14, 15, 16, 17, 18, 5, 19, 93, 94, 95, 96, 97, 98, 99, 100, 101, 102, 103, 104, 105, 106, 107] (by decide +kernel) (by decide +kernel)
set_option maxRecDepth 20000 in
theorem gX5_readOptions_X5_readWord : GoodIn wsX5_readOptions (wsV RX5 61 RX5 yX5_readWord wsX5_readWord) := goodIn_app (goodIn_of _ (by decide +kernel)) ggX5_readOptions_X5_readWord
set_option maxRecDepth 20000 in
theorem ggX5_readOptions_X5_readOption : GoodIn wsX5_readOptions wsX5_readOption := goodIn_r _ [23, 24, 25, 26, 27, 28, 5, 29, 1, 7, 8, 9, 30, 31, 32, 33, 34, 35, 36, 37, 38, 39, 40, 41, 10, 11, 12, 13, 14, 15, 16, 42, 43, 44, 45, 46, 47, 48, 49, 50, 51, 52, 53, 54, 55, 56, 57, 58, 59, 60, 61, 62, 63, 64, 65, 66, 67, 68, 69, 70, 71, 72, 73, 74, 75, 76, 77, 78, 79, 80, 81, 82, 83, 84, 85, 86, 2, 3, 4, 6, 17, 18, 19, 87, 88, 89, 90, 91, 92, 93, 94, 95, 96, 97, 98, 99, 100, 101, 102, 103, 104, 105, 108, 109, 110, 111, 112, 106, 107] (by decide +kernel) (by decide +kernel)
set_option maxRecDepth 20000 in
theorem gX5_readOptions_X5_readOption : GoodIn wsX5_readOptions (wsV RX5 122 RX5 yX5_readOption wsX5_readOption) := goodIn_app (goodIn_of _ (by decide +kernel)) ggX5_readOptions_X5_readOption
theorem dX5_readOptions_0 : decode cX5_readOptions 0 = .ok (.iconst 0, 1) := by decide +kernel
theorem dX5_readOptions_1 : decode cX5_readOptions 1 = .ok (.istore_n 1, 1) := by decide +kernel
theorem dX5_readOptions_2 : decode cX5_readOptions 2 = .ok (.iload_n 1, 1) := by decide +kernel
theorem dX5_readOptions_3 : decode cX5_readOptions 3 = .ok (.sipush 160, 3) := by decide +kernel
theorem dX5_readOptions_6 : decode cX5_readOptions 6 = .ok (.if_icmp .gt 32, 3) := by decide +kernel
theorem dX5_readOptions_9 : decode cX5_readOptions 9 = .ok (.aload_n 0, 1) := by decide +kernel
theorem dX5_readOptions_10 : decode cX5_readOptions 10 = .ok (.invokevirtual 61, 3) := by decide +kernel
theorem dX5_readOptions_13 : decode cX5_readOptions 13 = .ok (.aload_n 0, 1) := by decide +kernel
theorem dX5_readOptions_14 : decode cX5_readOptions 14 = .ok (.getfield 29, 3) := by decide +kernel
theorem dX5_readOptions_17 : decode cX5_readOptions 17 = .ok (.iconst 3, 1) := by decide +kernel
theorem dX5_readOptions_18 : decode cX5_readOptions 18 = .ok (.if_icmp .ne 5, 3) := by decide +kernel
theorem dX5_readOptions_21 : decode cX5_readOptions 21 = .ok (.iconst 1, 1) := by decide +kernel
theorem dX5_readOptions_22 : decode cX5_readOptions 22 = .ok (.ireturn, 1) := by decide +kernel
theorem dX5_readOptions_23 : decode cX5_readOptions 23 = .ok (.aload_n 0, 1) := by decide +kernel
theorem dX5_readOptions_24 : decode cX5_readOptions 24 = .ok (.invokevirtual 122, 3) := by decide +kernel
theorem dX5_readOptions_27 : decode cX5_readOptions 27 = .ok (.ifCond .ne 5, 3) := by decide +kernel
theorem dX5_readOptions_30 : decode cX5_readOptions 30 = .ok (.iconst 0, 1) := by decide +kernel
theorem dX5_readOptions_31 : decode cX5_readOptions 31 = .ok (.ireturn, 1) := by decide +kernel
theorem dX5_readOptions_32 : decode cX5_readOptions 32 = .ok (.iinc 1 1, 3) := by decide +kernel
theorem dX5_readOptions_35 : decode cX5_readOptions 35 = .ok (.goto (-33), 3) := by decide +kernel
theorem dX5_readOptions_38 : decode cX5_readOptions 38 = .ok (.iconst 0, 1) := by decide +kernel
theorem dX5_readOptions_39 : decode cX5_readOptions 39 = .ok (.ireturn, 1) := by decide +kernel
set_option maxRecDepth 20000 in
theorem ggX5_readOption_X5_isWord : GoodIn wsX5_readOption wsX5_isWord := goodIn_r _ [7, 8, 9, 10, 11, 12, 13, 14, 15, 16, 17, 18, 19, 20, 21, 22, 23, 24, 25, 26, 27, 28, 29, 30, 31, 32, 33, 34, 35, 36, 37, 38, 39, 40, 41, 42, 43, 44, 45, 46, 47, 48, 49, 50, 51, 52, 53, 54, 55, 56, 57, 58, 59, 60, 61, 62, 63, 64, 65, 66, 67, 89, 90, 91, 92, 93, 94, 95, 96, 97, 98, 99, 100, 101, 107, 108] (by decide +kernel) (by decide +kernel)
set_option maxRecDepth 20000 in
theorem gX5_readOption_X5_isWord : GoodIn wsX5_readOption (wsV RX5 70 RX5 yX5_isWord wsX5_isWord) := goodIn_app (goodIn_of _ (by decide +kernel)) ggX5_readOption_X5_isWord
set_option maxRecDepth 20000 in
theorem ggX5_readOption_X5_readNumber : GoodIn wsX5_readOption wsX5_readNumber := goodIn_r _ [71, 8, 2, 10, 9, 11, 72, 73, 74, 75, 76, 77, 78, 6, 79, 24, 25, 26, 27, 28, 29, 30, 80, 81, 82, 83, 84, 85, 86, 87, 88, 89, 90, 91, 92, 93, 94, 95, 96, 97, 98, 99, 100, 101, 107, 108] (by decide +kernel) (by decide +kernel)
set_option maxRecDepth 20000 in
theorem gX5_readOption_X5_readNumber : GoodIn wsX5_readOption (wsV RX5 116 RX5 yX5_readNumber wsX5_readNumber) := goodIn_app (goodIn_of _ (by decide +kernel)) ggX5_readOption_X5_readNumber
set_option maxRecDepth 20000 in
theorem ggX5_readOption_X5_refuse : GoodIn wsX5_readOption wsX5_refuse := goodIn_r _ [86, 87, 10, 88, 89, 90, 91, 92, 93, 94, 95, 96, 97, 98, 99, 100, 101] (by decide +kernel) (by decide +kernel)
set_option maxRecDepth 20000 in
theorem gX5_readOption_X5_refuse : GoodIn wsX5_readOption (wsV RX5 107 RX5 yX5_refuse wsX5_refuse) := goodIn_app (goodIn_of _ (by decide +kernel)) ggX5_readOption_X5_refuse
theorem dX5_readOption_0 : decode cX5_readOption 0 = .ok (.aload_n 0, 1) := by decide +kernel
theorem dX5_readOption_1 : decode cX5_readOption 1 = .ok (.ldc 125, 2) := by decide +kernel
theorem dX5_readOption_3 : decode cX5_readOption 3 = .ok (.invokevirtual 70, 3) := by decide +kernel
theorem dX5_readOption_6 : decode cX5_readOption 6 = .ok (.ifCond .ne 12, 3) := by decide +kernel
theorem dX5_readOption_9 : decode cX5_readOption 9 = .ok (.aload_n 0, 1) := by decide +kernel
theorem dX5_readOption_10 : decode cX5_readOption 10 = .ok (.ldc 127, 2) := by decide +kernel
theorem dX5_readOption_12 : decode cX5_readOption 12 = .ok (.invokevirtual 70, 3) := by decide +kernel
theorem dX5_readOption_15 : decode cX5_readOption 15 = .ok (.ifCond .eq 26, 3) := by decide +kernel
theorem dX5_readOption_18 : decode cX5_readOption 18 = .ok (.aload_n 0, 1) := by decide +kernel
theorem dX5_readOption_19 : decode cX5_readOption 19 = .ok (.getfield 25, 3) := by decide +kernel
theorem dX5_readOption_22 : decode cX5_readOption 22 = .ok (.aload_n 0, 1) := by decide +kernel
theorem dX5_readOption_23 : decode cX5_readOption 23 = .ok (.ldc 125, 2) := by decide +kernel
theorem dX5_readOption_25 : decode cX5_readOption 25 = .ok (.invokevirtual 70, 3) := by decide +kernel
theorem dX5_readOption_28 : decode cX5_readOption 28 = .ok (.ifCond .eq 7, 3) := by decide +kernel
theorem dX5_readOption_31 : decode cX5_readOption 31 = .ok (.iconst 0, 1) := by decide +kernel
theorem dX5_readOption_32 : decode cX5_readOption 32 = .ok (.goto 4, 3) := by decide +kernel
theorem dX5_readOption_35 : decode cX5_readOption 35 = .ok (.iconst 1, 1) := by decide +kernel
theorem dX5_readOption_36 : decode cX5_readOption 36 = .ok (.putfield 129, 3) := by decide +kernel
theorem dX5_readOption_39 : decode cX5_readOption 39 = .ok (.iconst 1, 1) := by decide +kernel
theorem dX5_readOption_40 : decode cX5_readOption 40 = .ok (.ireturn, 1) := by decide +kernel
theorem dX5_readOption_41 : decode cX5_readOption 41 = .ok (.aload_n 0, 1) := by decide +kernel
theorem dX5_readOption_42 : decode cX5_readOption 42 = .ok (.ldc 132, 2) := by decide +kernel
theorem dX5_readOption_44 : decode cX5_readOption 44 = .ok (.invokevirtual 70, 3) := by decide +kernel
theorem dX5_readOption_47 : decode cX5_readOption 47 = .ok (.ifCond .eq 13, 3) := by decide +kernel
theorem dX5_readOption_50 : decode cX5_readOption 50 = .ok (.aload_n 0, 1) := by decide +kernel
theorem dX5_readOption_51 : decode cX5_readOption 51 = .ok (.getfield 25, 3) := by decide +kernel
theorem dX5_readOption_54 : decode cX5_readOption 54 = .ok (.iconst 2, 1) := by decide +kernel
theorem dX5_readOption_55 : decode cX5_readOption 55 = .ok (.putfield 134, 3) := by decide +kernel
theorem dX5_readOption_58 : decode cX5_readOption 58 = .ok (.iconst 1, 1) := by decide +kernel
theorem dX5_readOption_59 : decode cX5_readOption 59 = .ok (.ireturn, 1) := by decide +kernel
theorem dX5_readOption_60 : decode cX5_readOption 60 = .ok (.aload_n 0, 1) := by decide +kernel
theorem dX5_readOption_61 : decode cX5_readOption 61 = .ok (.ldc 137, 2) := by decide +kernel
theorem dX5_readOption_63 : decode cX5_readOption 63 = .ok (.invokevirtual 70, 3) := by decide +kernel
theorem dX5_readOption_66 : decode cX5_readOption 66 = .ok (.ifCond .ne 12, 3) := by decide +kernel
theorem dX5_readOption_69 : decode cX5_readOption 69 = .ok (.aload_n 0, 1) := by decide +kernel
theorem dX5_readOption_70 : decode cX5_readOption 70 = .ok (.ldc 139, 2) := by decide +kernel
theorem dX5_readOption_72 : decode cX5_readOption 72 = .ok (.invokevirtual 70, 3) := by decide +kernel
theorem dX5_readOption_75 : decode cX5_readOption 75 = .ok (.ifCond .eq 45, 3) := by decide +kernel
theorem dX5_readOption_78 : decode cX5_readOption 78 = .ok (.aload_n 0, 1) := by decide +kernel
theorem dX5_readOption_79 : decode cX5_readOption 79 = .ok (.getfield 25, 3) := by decide +kernel
theorem dX5_readOption_82 : decode cX5_readOption 82 = .ok (.aload_n 0, 1) := by decide +kernel
theorem dX5_readOption_83 : decode cX5_readOption 83 = .ok (.ldc 137, 2) := by decide +kernel
theorem dX5_readOption_85 : decode cX5_readOption 85 = .ok (.invokevirtual 70, 3) := by decide +kernel
theorem dX5_readOption_88 : decode cX5_readOption 88 = .ok (.ifCond .eq 7, 3) := by decide +kernel
theorem dX5_readOption_91 : decode cX5_readOption 91 = .ok (.iconst 0, 1) := by decide +kernel
theorem dX5_readOption_92 : decode cX5_readOption 92 = .ok (.goto 4, 3) := by decide +kernel
theorem dX5_readOption_95 : decode cX5_readOption 95 = .ok (.iconst 1, 1) := by decide +kernel
theorem dX5_readOption_96 : decode cX5_readOption 96 = .ok (.putfield 134, 3) := by decide +kernel
theorem dX5_readOption_99 : decode cX5_readOption 99 = .ok (.aload_n 0, 1) := by decide +kernel
theorem dX5_readOption_100 : decode cX5_readOption 100 = .ok (.iconst 1, 1) := by decide +kernel
theorem dX5_readOption_101 : decode cX5_readOption 101 = .ok (.bipush 50, 2) := by decide +kernel
theorem dX5_readOption_103 : decode cX5_readOption 103 = .ok (.invokevirtual 116, 3) := by decide +kernel
theorem dX5_readOption_106 : decode cX5_readOption 106 = .ok (.istore_n 1, 1) := by decide +kernel
theorem dX5_readOption_107 : decode cX5_readOption 107 = .ok (.aload_n 0, 1) := by decide +kernel
theorem dX5_readOption_108 : decode cX5_readOption 108 = .ok (.getfield 25, 3) := by decide +kernel
theorem dX5_readOption_111 : decode cX5_readOption 111 = .ok (.aload_n 0, 1) := by decide +kernel
theorem dX5_readOption_112 : decode cX5_readOption 112 = .ok (.getfield 39, 3) := by decide +kernel
theorem dX5_readOption_115 : decode cX5_readOption 115 = .ok (.putfield 141, 3) := by decide +kernel
theorem dX5_readOption_118 : decode cX5_readOption 118 = .ok (.iload_n 1, 1) := by decide +kernel
theorem dX5_readOption_119 : decode cX5_readOption 119 = .ok (.ireturn, 1) := by decide +kernel
theorem dX5_readOption_120 : decode cX5_readOption 120 = .ok (.aload_n 0, 1) := by decide +kernel
theorem dX5_readOption_121 : decode cX5_readOption 121 = .ok (.ldc 144, 2) := by decide +kernel
theorem dX5_readOption_123 : decode cX5_readOption 123 = .ok (.invokevirtual 70, 3) := by decide +kernel
theorem dX5_readOption_126 : decode cX5_readOption 126 = .ok (.ifCond .eq 13, 3) := by decide +kernel
theorem dX5_readOption_129 : decode cX5_readOption 129 = .ok (.aload_n 0, 1) := by decide +kernel
theorem dX5_readOption_130 : decode cX5_readOption 130 = .ok (.getfield 25, 3) := by decide +kernel
theorem dX5_readOption_133 : decode cX5_readOption 133 = .ok (.iconst 1, 1) := by decide +kernel
theorem dX5_readOption_134 : decode cX5_readOption 134 = .ok (.putfield 146, 3) := by decide +kernel
theorem dX5_readOption_137 : decode cX5_readOption 137 = .ok (.iconst 1, 1) := by decide +kernel
theorem dX5_readOption_138 : decode cX5_readOption 138 = .ok (.ireturn, 1) := by decide +kernel
theorem dX5_readOption_139 : decode cX5_readOption 139 = .ok (.aload_n 0, 1) := by decide +kernel
theorem dX5_readOption_140 : decode cX5_readOption 140 = .ok (.ldc 149, 2) := by decide +kernel
theorem dX5_readOption_142 : decode cX5_readOption 142 = .ok (.invokevirtual 70, 3) := by decide +kernel
theorem dX5_readOption_145 : decode cX5_readOption 145 = .ok (.ifCond .ne 12, 3) := by decide +kernel
theorem dX5_readOption_148 : decode cX5_readOption 148 = .ok (.aload_n 0, 1) := by decide +kernel
theorem dX5_readOption_149 : decode cX5_readOption 149 = .ok (.ldc 151, 2) := by decide +kernel
theorem dX5_readOption_151 : decode cX5_readOption 151 = .ok (.invokevirtual 70, 3) := by decide +kernel
theorem dX5_readOption_154 : decode cX5_readOption 154 = .ok (.ifCond .eq 45, 3) := by decide +kernel
theorem dX5_readOption_157 : decode cX5_readOption 157 = .ok (.aload_n 0, 1) := by decide +kernel
theorem dX5_readOption_158 : decode cX5_readOption 158 = .ok (.getfield 25, 3) := by decide +kernel
theorem dX5_readOption_161 : decode cX5_readOption 161 = .ok (.aload_n 0, 1) := by decide +kernel
theorem dX5_readOption_162 : decode cX5_readOption 162 = .ok (.ldc 151, 2) := by decide +kernel
theorem dX5_readOption_164 : decode cX5_readOption 164 = .ok (.invokevirtual 70, 3) := by decide +kernel
theorem dX5_readOption_167 : decode cX5_readOption 167 = .ok (.ifCond .eq 7, 3) := by decide +kernel
theorem dX5_readOption_170 : decode cX5_readOption 170 = .ok (.iconst 2, 1) := by decide +kernel
theorem dX5_readOption_171 : decode cX5_readOption 171 = .ok (.goto 4, 3) := by decide +kernel
theorem dX5_readOption_174 : decode cX5_readOption 174 = .ok (.iconst 0, 1) := by decide +kernel
theorem dX5_readOption_175 : decode cX5_readOption 175 = .ok (.putfield 146, 3) := by decide +kernel
theorem dX5_readOption_178 : decode cX5_readOption 178 = .ok (.aload_n 0, 1) := by decide +kernel
theorem dX5_readOption_179 : decode cX5_readOption 179 = .ok (.iconst 2, 1) := by decide +kernel
theorem dX5_readOption_180 : decode cX5_readOption 180 = .ok (.bipush 6, 2) := by decide +kernel
theorem dX5_readOption_182 : decode cX5_readOption 182 = .ok (.invokevirtual 116, 3) := by decide +kernel
theorem dX5_readOption_185 : decode cX5_readOption 185 = .ok (.istore_n 1, 1) := by decide +kernel
theorem dX5_readOption_186 : decode cX5_readOption 186 = .ok (.aload_n 0, 1) := by decide +kernel
theorem dX5_readOption_187 : decode cX5_readOption 187 = .ok (.getfield 25, 3) := by decide +kernel
theorem dX5_readOption_190 : decode cX5_readOption 190 = .ok (.aload_n 0, 1) := by decide +kernel
theorem dX5_readOption_191 : decode cX5_readOption 191 = .ok (.getfield 39, 3) := by decide +kernel
theorem dX5_readOption_194 : decode cX5_readOption 194 = .ok (.putfield 153, 3) := by decide +kernel
theorem dX5_readOption_197 : decode cX5_readOption 197 = .ok (.iload_n 1, 1) := by decide +kernel
theorem dX5_readOption_198 : decode cX5_readOption 198 = .ok (.ireturn, 1) := by decide +kernel
theorem dX5_readOption_199 : decode cX5_readOption 199 = .ok (.aload_n 0, 1) := by decide +kernel
theorem dX5_readOption_200 : decode cX5_readOption 200 = .ok (.iconst 1, 1) := by decide +kernel
theorem dX5_readOption_201 : decode cX5_readOption 201 = .ok (.invokevirtual 107, 3) := by decide +kernel
theorem dX5_readOption_204 : decode cX5_readOption 204 = .ok (.ireturn, 1) := by decide +kernel
set_option maxRecDepth 20000 in
theorem ggX5_readNumber_X5_readWord : GoodIn wsX5_readNumber wsX5_readWord := goodIn_r _ [14, 4, 3, 5, 1, 15, 16, 17, 18, 19, 20, 21, 22, 23, 13, 24, 31, 32, 33, 34, 35, 36, 37, 38, 39, 40, 41, 42, 43, 44, 45] (by decide +kernel) (by decide +kernel)
set_option maxRecDepth 20000 in
theorem gX5_readNumber_X5_readWord : GoodIn wsX5_readNumber (wsV RX5 61 RX5 yX5_readWord wsX5_readWord) := goodIn_app (goodIn_of _ (by decide +kernel)) ggX5_readNumber_X5_readWord
set_option maxRecDepth 20000 in
theorem ggX5_readNumber_X5_refuse : GoodIn wsX5_readNumber wsX5_refuse := goodIn_r _ [28, 29, 3, 30, 31, 32, 33, 34, 35, 36, 37, 38, 39, 40, 41, 42, 43] (by decide +kernel) (by decide +kernel)
set_option maxRecDepth 20000 in
theorem gX5_readNumber_X5_refuse : GoodIn wsX5_readNumber (wsV RX5 107 RX5 yX5_refuse wsX5_refuse) := goodIn_app (goodIn_of _ (by decide +kernel)) ggX5_readNumber_X5_refuse
set_option maxRecDepth 20000 in
theorem ggX5_readNumber_X10_byteAt : GoodIn wsX5_readNumber wsX10_byteAt := goodIn_r _ [19, 20, 21, 44, 45] (by decide +kernel) (by decide +kernel)
set_option maxRecDepth 20000 in
theorem gX5_readNumber_X10_byteAt : GoodIn wsX5_readNumber (wsV RX5 156 RX10 yX10_byteAt wsX10_byteAt) := goodIn_app (goodIn_of _ (by decide +kernel)) ggX5_readNumber_X10_byteAt
theorem dX5_readNumber_0 : decode cX5_readNumber 0 = .ok (.aload_n 0, 1) := by decide +kernel
theorem dX5_readNumber_1 : decode cX5_readNumber 1 = .ok (.invokevirtual 61, 3) := by decide +kernel
theorem dX5_readNumber_4 : decode cX5_readNumber 4 = .ok (.aload_n 0, 1) := by decide +kernel
theorem dX5_readNumber_5 : decode cX5_readNumber 5 = .ok (.getfield 29, 3) := by decide +kernel
theorem dX5_readNumber_8 : decode cX5_readNumber 8 = .ok (.iconst 2, 1) := by decide +kernel
theorem dX5_readNumber_9 : decode cX5_readNumber 9 = .ok (.if_icmp .eq 9, 3) := by decide +kernel
theorem dX5_readNumber_12 : decode cX5_readNumber 12 = .ok (.aload_n 0, 1) := by decide +kernel
theorem dX5_readNumber_13 : decode cX5_readNumber 13 = .ok (.iconst 1, 1) := by decide +kernel
theorem dX5_readNumber_14 : decode cX5_readNumber 14 = .ok (.invokevirtual 107, 3) := by decide +kernel
theorem dX5_readNumber_17 : decode cX5_readNumber 17 = .ok (.ireturn, 1) := by decide +kernel
theorem dX5_readNumber_18 : decode cX5_readNumber 18 = .ok (.aload_n 0, 1) := by decide +kernel
theorem dX5_readNumber_19 : decode cX5_readNumber 19 = .ok (.iconst 0, 1) := by decide +kernel
theorem dX5_readNumber_20 : decode cX5_readNumber 20 = .ok (.putfield 39, 3) := by decide +kernel
theorem dX5_readNumber_23 : decode cX5_readNumber 23 = .ok (.aload_n 0, 1) := by decide +kernel
theorem dX5_readNumber_24 : decode cX5_readNumber 24 = .ok (.getfield 33, 3) := by decide +kernel
theorem dX5_readNumber_27 : decode cX5_readNumber 27 = .ok (.istore_n 3, 1) := by decide +kernel
theorem dX5_readNumber_28 : decode cX5_readNumber 28 = .ok (.iload_n 3, 1) := by decide +kernel
theorem dX5_readNumber_29 : decode cX5_readNumber 29 = .ok (.aload_n 0, 1) := by decide +kernel
theorem dX5_readNumber_30 : decode cX5_readNumber 30 = .ok (.getfield 36, 3) := by decide +kernel
theorem dX5_readNumber_33 : decode cX5_readNumber 33 = .ok (.if_icmp .ge 38, 3) := by decide +kernel
theorem dX5_readNumber_36 : decode cX5_readNumber 36 = .ok (.aload_n 0, 1) := by decide +kernel
theorem dX5_readNumber_37 : decode cX5_readNumber 37 = .ok (.sipush 1000, 3) := by decide +kernel
theorem dX5_readNumber_40 : decode cX5_readNumber 40 = .ok (.aload_n 0, 1) := by decide +kernel
theorem dX5_readNumber_41 : decode cX5_readNumber 41 = .ok (.getfield 39, 3) := by decide +kernel
theorem dX5_readNumber_44 : decode cX5_readNumber 44 = .ok (.bipush 10, 2) := by decide +kernel
theorem dX5_readNumber_46 : decode cX5_readNumber 46 = .ok (.imul, 1) := by decide +kernel
theorem dX5_readNumber_47 : decode cX5_readNumber 47 = .ok (.aload_n 0, 1) := by decide +kernel
theorem dX5_readNumber_48 : decode cX5_readNumber 48 = .ok (.getfield 12, 3) := by decide +kernel
theorem dX5_readNumber_51 : decode cX5_readNumber 51 = .ok (.iload_n 3, 1) := by decide +kernel
theorem dX5_readNumber_52 : decode cX5_readNumber 52 = .ok (.invokevirtual 156, 3) := by decide +kernel
theorem dX5_readNumber_55 : decode cX5_readNumber 55 = .ok (.iadd, 1) := by decide +kernel
theorem dX5_readNumber_56 : decode cX5_readNumber 56 = .ok (.bipush 48, 2) := by decide +kernel
theorem dX5_readNumber_58 : decode cX5_readNumber 58 = .ok (.isub, 1) := by decide +kernel
theorem dX5_readNumber_59 : decode cX5_readNumber 59 = .ok (.invokestatic 160, 3) := by decide +kernel
theorem dX5_readNumber_62 : decode cX5_readNumber 62 = .ok (.putfield 39, 3) := by decide +kernel
theorem dX5_readNumber_65 : decode cX5_readNumber 65 = .ok (.iinc 3 1, 3) := by decide +kernel
theorem dX5_readNumber_68 : decode cX5_readNumber 68 = .ok (.goto (-40), 3) := by decide +kernel
theorem dX5_readNumber_71 : decode cX5_readNumber 71 = .ok (.aload_n 0, 1) := by decide +kernel
theorem dX5_readNumber_72 : decode cX5_readNumber 72 = .ok (.getfield 39, 3) := by decide +kernel
theorem dX5_readNumber_75 : decode cX5_readNumber 75 = .ok (.iload_n 1, 1) := by decide +kernel
theorem dX5_readNumber_76 : decode cX5_readNumber 76 = .ok (.if_icmp .lt 11, 3) := by decide +kernel
theorem dX5_readNumber_79 : decode cX5_readNumber 79 = .ok (.aload_n 0, 1) := by decide +kernel
theorem dX5_readNumber_80 : decode cX5_readNumber 80 = .ok (.getfield 39, 3) := by decide +kernel
theorem dX5_readNumber_83 : decode cX5_readNumber 83 = .ok (.iload_n 2, 1) := by decide +kernel
theorem dX5_readNumber_84 : decode cX5_readNumber 84 = .ok (.if_icmp .le 11, 3) := by decide +kernel
theorem dX5_readNumber_87 : decode cX5_readNumber 87 = .ok (.aload_n 0, 1) := by decide +kernel
theorem dX5_readNumber_88 : decode cX5_readNumber 88 = .ok (.iconst 2, 1) := by decide +kernel
theorem dX5_readNumber_89 : decode cX5_readNumber 89 = .ok (.invokevirtual 107, 3) := by decide +kernel
theorem dX5_readNumber_92 : decode cX5_readNumber 92 = .ok (.ifCond .eq 7, 3) := by decide +kernel
theorem dX5_readNumber_95 : decode cX5_readNumber 95 = .ok (.iconst 1, 1) := by decide +kernel
theorem dX5_readNumber_96 : decode cX5_readNumber 96 = .ok (.goto 4, 3) := by decide +kernel
theorem dX5_readNumber_99 : decode cX5_readNumber 99 = .ok (.iconst 0, 1) := by decide +kernel
theorem dX5_readNumber_100 : decode cX5_readNumber 100 = .ok (.ireturn, 1) := by decide +kernel
theorem dX5_refuse_0 : decode cX5_refuse 0 = .ok (.aload_n 0, 1) := by decide +kernel
theorem dX5_refuse_1 : decode cX5_refuse 1 = .ok (.iload_n 1, 1) := by decide +kernel
theorem dX5_refuse_2 : decode cX5_refuse 2 = .ok (.putfield 55, 3) := by decide +kernel
theorem dX5_refuse_5 : decode cX5_refuse 5 = .ok (.aload_n 0, 1) := by decide +kernel
theorem dX5_refuse_6 : decode cX5_refuse 6 = .ok (.aload_n 0, 1) := by decide +kernel
theorem dX5_refuse_7 : decode cX5_refuse 7 = .ok (.getfield 33, 3) := by decide +kernel
theorem dX5_refuse_10 : decode cX5_refuse 10 = .ok (.putfield 58, 3) := by decide +kernel
theorem dX5_refuse_13 : decode cX5_refuse 13 = .ok (.iconst 0, 1) := by decide +kernel
theorem dX5_refuse_14 : decode cX5_refuse 14 = .ok (.ireturn, 1) := by decide +kernel
set_option maxRecDepth 20000 in
theorem ggX5_readWord_X10_byteAt : GoodIn wsX5_readWord wsX10_byteAt := goodIn_r _ [9, 10, 11, 29, 30] (by decide +kernel) (by decide +kernel)
set_option maxRecDepth 20000 in
theorem gX5_readWord_X10_byteAt : GoodIn wsX5_readWord (wsV RX5 156 RX10 yX10_byteAt wsX10_byteAt) := goodIn_app (goodIn_of _ (by decide +kernel)) ggX5_readWord_X10_byteAt
set_option maxRecDepth 20000 in
theorem ggX5_readWord_X5_kindOf : GoodIn wsX5_readWord wsX5_kindOf := goodIn_r _ [15] (by decide +kernel) (by decide +kernel)
set_option maxRecDepth 20000 in
theorem gX5_readWord_X5_kindOf : GoodIn wsX5_readWord (va_wsS RX5 169 yX5_kindOf wsX5_kindOf) := goodIn_app (goodIn_of _ (by decide +kernel)) ggX5_readWord_X5_kindOf
theorem dX5_readWord_0 : decode cX5_readWord 0 = .ok (.aload_n 0, 1) := by decide +kernel
theorem dX5_readWord_1 : decode cX5_readWord 1 = .ok (.aload_n 0, 1) := by decide +kernel
theorem dX5_readWord_2 : decode cX5_readWord 2 = .ok (.getfield 36, 3) := by decide +kernel
theorem dX5_readWord_5 : decode cX5_readWord 5 = .ok (.putfield 33, 3) := by decide +kernel
theorem dX5_readWord_8 : decode cX5_readWord 8 = .ok (.aload_n 0, 1) := by decide +kernel
theorem dX5_readWord_9 : decode cX5_readWord 9 = .ok (.getfield 33, 3) := by decide +kernel
theorem dX5_readWord_12 : decode cX5_readWord 12 = .ok (.aload_n 0, 1) := by decide +kernel
theorem dX5_readWord_13 : decode cX5_readWord 13 = .ok (.getfield 12, 3) := by decide +kernel
theorem dX5_readWord_16 : decode cX5_readWord 16 = .ok (.getfield 166, 3) := by decide +kernel
theorem dX5_readWord_19 : decode cX5_readWord 19 = .ok (.if_icmp .ge 32, 3) := by decide +kernel
theorem dX5_readWord_22 : decode cX5_readWord 22 = .ok (.aload_n 0, 1) := by decide +kernel
theorem dX5_readWord_23 : decode cX5_readWord 23 = .ok (.getfield 12, 3) := by decide +kernel
theorem dX5_readWord_26 : decode cX5_readWord 26 = .ok (.aload_n 0, 1) := by decide +kernel
theorem dX5_readWord_27 : decode cX5_readWord 27 = .ok (.getfield 33, 3) := by decide +kernel
theorem dX5_readWord_30 : decode cX5_readWord 30 = .ok (.invokevirtual 156, 3) := by decide +kernel
theorem dX5_readWord_33 : decode cX5_readWord 33 = .ok (.bipush 32, 2) := by decide +kernel
theorem dX5_readWord_35 : decode cX5_readWord 35 = .ok (.if_icmp .ne 16, 3) := by decide +kernel
theorem dX5_readWord_38 : decode cX5_readWord 38 = .ok (.aload_n 0, 1) := by decide +kernel
theorem dX5_readWord_39 : decode cX5_readWord 39 = .ok (.dup, 1) := by decide +kernel
theorem dX5_readWord_40 : decode cX5_readWord 40 = .ok (.getfield 33, 3) := by decide +kernel
theorem dX5_readWord_43 : decode cX5_readWord 43 = .ok (.iconst 1, 1) := by decide +kernel
theorem dX5_readWord_44 : decode cX5_readWord 44 = .ok (.iadd, 1) := by decide +kernel
theorem dX5_readWord_45 : decode cX5_readWord 45 = .ok (.putfield 33, 3) := by decide +kernel
theorem dX5_readWord_48 : decode cX5_readWord 48 = .ok (.goto (-40), 3) := by decide +kernel
theorem dX5_readWord_51 : decode cX5_readWord 51 = .ok (.aload_n 0, 1) := by decide +kernel
theorem dX5_readWord_52 : decode cX5_readWord 52 = .ok (.aload_n 0, 1) := by decide +kernel
theorem dX5_readWord_53 : decode cX5_readWord 53 = .ok (.getfield 12, 3) := by decide +kernel
theorem dX5_readWord_56 : decode cX5_readWord 56 = .ok (.aload_n 0, 1) := by decide +kernel
theorem dX5_readWord_57 : decode cX5_readWord 57 = .ok (.getfield 33, 3) := by decide +kernel
theorem dX5_readWord_60 : decode cX5_readWord 60 = .ok (.invokevirtual 156, 3) := by decide +kernel
theorem dX5_readWord_63 : decode cX5_readWord 63 = .ok (.invokestatic 169, 3) := by decide +kernel
theorem dX5_readWord_66 : decode cX5_readWord 66 = .ok (.putfield 29, 3) := by decide +kernel
theorem dX5_readWord_69 : decode cX5_readWord 69 = .ok (.aload_n 0, 1) := by decide +kernel
theorem dX5_readWord_70 : decode cX5_readWord 70 = .ok (.aload_n 0, 1) := by decide +kernel
theorem dX5_readWord_71 : decode cX5_readWord 71 = .ok (.getfield 33, 3) := by decide +kernel
theorem dX5_readWord_74 : decode cX5_readWord 74 = .ok (.putfield 36, 3) := by decide +kernel
theorem dX5_readWord_77 : decode cX5_readWord 77 = .ok (.aload_n 0, 1) := by decide +kernel
theorem dX5_readWord_78 : decode cX5_readWord 78 = .ok (.getfield 29, 3) := by decide +kernel
theorem dX5_readWord_81 : decode cX5_readWord 81 = .ok (.iconst 1, 1) := by decide +kernel
theorem dX5_readWord_82 : decode cX5_readWord 82 = .ok (.if_icmp .eq 11, 3) := by decide +kernel
theorem dX5_readWord_85 : decode cX5_readWord 85 = .ok (.aload_n 0, 1) := by decide +kernel
theorem dX5_readWord_86 : decode cX5_readWord 86 = .ok (.getfield 29, 3) := by decide +kernel
theorem dX5_readWord_89 : decode cX5_readWord 89 = .ok (.iconst 2, 1) := by decide +kernel
theorem dX5_readWord_90 : decode cX5_readWord 90 = .ok (.if_icmp .ne 51, 3) := by decide +kernel
theorem dX5_readWord_93 : decode cX5_readWord 93 = .ok (.aload_n 0, 1) := by decide +kernel
theorem dX5_readWord_94 : decode cX5_readWord 94 = .ok (.getfield 36, 3) := by decide +kernel
theorem dX5_readWord_97 : decode cX5_readWord 97 = .ok (.aload_n 0, 1) := by decide +kernel
theorem dX5_readWord_98 : decode cX5_readWord 98 = .ok (.getfield 12, 3) := by decide +kernel
theorem dX5_readWord_101 : decode cX5_readWord 101 = .ok (.getfield 166, 3) := by decide +kernel
theorem dX5_readWord_104 : decode cX5_readWord 104 = .ok (.if_icmp .ge 54, 3) := by decide +kernel
theorem dX5_readWord_107 : decode cX5_readWord 107 = .ok (.aload_n 0, 1) := by decide +kernel
theorem dX5_readWord_108 : decode cX5_readWord 108 = .ok (.getfield 12, 3) := by decide +kernel
theorem dX5_readWord_111 : decode cX5_readWord 111 = .ok (.aload_n 0, 1) := by decide +kernel
theorem dX5_readWord_112 : decode cX5_readWord 112 = .ok (.getfield 36, 3) := by decide +kernel
theorem dX5_readWord_115 : decode cX5_readWord 115 = .ok (.invokevirtual 156, 3) := by decide +kernel
theorem dX5_readWord_118 : decode cX5_readWord 118 = .ok (.invokestatic 169, 3) := by decide +kernel
theorem dX5_readWord_121 : decode cX5_readWord 121 = .ok (.aload_n 0, 1) := by decide +kernel
theorem dX5_readWord_122 : decode cX5_readWord 122 = .ok (.getfield 29, 3) := by decide +kernel
theorem dX5_readWord_125 : decode cX5_readWord 125 = .ok (.if_icmp .ne 33, 3) := by decide +kernel
theorem dX5_readWord_128 : decode cX5_readWord 128 = .ok (.aload_n 0, 1) := by decide +kernel
theorem dX5_readWord_129 : decode cX5_readWord 129 = .ok (.dup, 1) := by decide +kernel
theorem dX5_readWord_130 : decode cX5_readWord 130 = .ok (.getfield 36, 3) := by decide +kernel
theorem dX5_readWord_133 : decode cX5_readWord 133 = .ok (.iconst 1, 1) := by decide +kernel
theorem dX5_readWord_134 : decode cX5_readWord 134 = .ok (.iadd, 1) := by decide +kernel
theorem dX5_readWord_135 : decode cX5_readWord 135 = .ok (.putfield 36, 3) := by decide +kernel
theorem dX5_readWord_138 : decode cX5_readWord 138 = .ok (.goto (-45), 3) := by decide +kernel
theorem dX5_readWord_141 : decode cX5_readWord 141 = .ok (.aload_n 0, 1) := by decide +kernel
theorem dX5_readWord_142 : decode cX5_readWord 142 = .ok (.getfield 29, 3) := by decide +kernel
theorem dX5_readWord_145 : decode cX5_readWord 145 = .ok (.ifCond .eq 13, 3) := by decide +kernel
theorem dX5_readWord_148 : decode cX5_readWord 148 = .ok (.aload_n 0, 1) := by decide +kernel
theorem dX5_readWord_149 : decode cX5_readWord 149 = .ok (.dup, 1) := by decide +kernel
theorem dX5_readWord_150 : decode cX5_readWord 150 = .ok (.getfield 36, 3) := by decide +kernel
theorem dX5_readWord_153 : decode cX5_readWord 153 = .ok (.iconst 1, 1) := by decide +kernel
theorem dX5_readWord_154 : decode cX5_readWord 154 = .ok (.iadd, 1) := by decide +kernel
theorem dX5_readWord_155 : decode cX5_readWord 155 = .ok (.putfield 36, 3) := by decide +kernel
theorem dX5_readWord_158 : decode cX5_readWord 158 = .ok (.return_, 1) := by decide +kernel
theorem dX5_kindOf_0 : decode cX5_kindOf 0 = .ok (.iload_n 0, 1) := by decide +kernel
theorem dX5_kindOf_1 : decode cX5_kindOf 1 = .ok (.ifCond .ne 5, 3) := by decide +kernel
theorem dX5_kindOf_4 : decode cX5_kindOf 4 = .ok (.iconst 0, 1) := by decide +kernel
theorem dX5_kindOf_5 : decode cX5_kindOf 5 = .ok (.ireturn, 1) := by decide +kernel
theorem dX5_kindOf_6 : decode cX5_kindOf 6 = .ok (.iload_n 0, 1) := by decide +kernel
theorem dX5_kindOf_7 : decode cX5_kindOf 7 = .ok (.bipush 97, 2) := by decide +kernel
theorem dX5_kindOf_9 : decode cX5_kindOf 9 = .ok (.if_icmp .lt 11, 3) := by decide +kernel
theorem dX5_kindOf_12 : decode cX5_kindOf 12 = .ok (.iload_n 0, 1) := by decide +kernel
theorem dX5_kindOf_13 : decode cX5_kindOf 13 = .ok (.bipush 122, 2) := by decide +kernel
theorem dX5_kindOf_15 : decode cX5_kindOf 15 = .ok (.if_icmp .gt 5, 3) := by decide +kernel
theorem dX5_kindOf_18 : decode cX5_kindOf 18 = .ok (.iconst 1, 1) := by decide +kernel
theorem dX5_kindOf_19 : decode cX5_kindOf 19 = .ok (.ireturn, 1) := by decide +kernel
theorem dX5_kindOf_20 : decode cX5_kindOf 20 = .ok (.iload_n 0, 1) := by decide +kernel
theorem dX5_kindOf_21 : decode cX5_kindOf 21 = .ok (.bipush 48, 2) := by decide +kernel
theorem dX5_kindOf_23 : decode cX5_kindOf 23 = .ok (.if_icmp .lt 11, 3) := by decide +kernel
theorem dX5_kindOf_26 : decode cX5_kindOf 26 = .ok (.iload_n 0, 1) := by decide +kernel
theorem dX5_kindOf_27 : decode cX5_kindOf 27 = .ok (.bipush 57, 2) := by decide +kernel
theorem dX5_kindOf_29 : decode cX5_kindOf 29 = .ok (.if_icmp .gt 5, 3) := by decide +kernel
theorem dX5_kindOf_32 : decode cX5_kindOf 32 = .ok (.iconst 2, 1) := by decide +kernel
theorem dX5_kindOf_33 : decode cX5_kindOf 33 = .ok (.ireturn, 1) := by decide +kernel
theorem dX5_kindOf_34 : decode cX5_kindOf 34 = .ok (.iload_n 0, 1) := by decide +kernel
theorem dX5_kindOf_35 : decode cX5_kindOf 35 = .ok (.bipush 59, 2) := by decide +kernel
theorem dX5_kindOf_37 : decode cX5_kindOf 37 = .ok (.if_icmp .ne 7, 3) := by decide +kernel
theorem dX5_kindOf_40 : decode cX5_kindOf 40 = .ok (.iconst 3, 1) := by decide +kernel
theorem dX5_kindOf_41 : decode cX5_kindOf 41 = .ok (.goto 4, 3) := by decide +kernel
theorem dX5_kindOf_44 : decode cX5_kindOf 44 = .ok (.iconst 4, 1) := by decide +kernel
theorem dX5_kindOf_45 : decode cX5_kindOf 45 = .ok (.ireturn, 1) := by decide +kernel
set_option maxRecDepth 20000 in
theorem ggX5_isWord_J0_length_8abf5 : GoodIn wsX5_isWord wsJ0_length_8abf5 := goodIn_r _ [9, 10, 11, 12, 13, 8, 14, 15, 16] (by decide +kernel) (by decide +kernel)
set_option maxRecDepth 20000 in
theorem gX5_isWord_J0_length_8abf5 : GoodIn wsX5_isWord (wsV RX5 172 RJ0 yJ0_length_8abf5 wsJ0_length_8abf5) := goodIn_app (goodIn_of _ (by decide +kernel)) ggX5_isWord_J0_length_8abf5
set_option maxRecDepth 20000 in
theorem ggX5_isWord_X10_byteAt : GoodIn wsX5_isWord wsX10_byteAt := goodIn_r _ [21, 22, 23, 74, 75] (by decide +kernel) (by decide +kernel)
set_option maxRecDepth 20000 in
theorem gX5_isWord_X10_byteAt : GoodIn wsX5_isWord (wsV RX5 156 RX10 yX10_byteAt wsX10_byteAt) := goodIn_app (goodIn_of _ (by decide +kernel)) ggX5_isWord_X10_byteAt
set_option maxRecDepth 20000 in
theorem ggX5_isWord_J0_charAt_5068e : GoodIn wsX5_isWord wsJ0_charAt_5068e := goodIn_r _ [27, 10, 28, 29, 30, 8, 31, 15, 16, 32, 33, 34, 35, 36, 37, 38, 39, 40, 41, 42, 43, 44, 45, 46, 47, 48, 49, 50, 51, 52, 53, 54, 55, 56, 57, 58, 59, 60] (by decide +kernel) (by decide +kernel)
set_option maxRecDepth 20000 in
theorem gX5_isWord_J0_charAt_5068e : GoodIn wsX5_isWord (wsV RX5 178 RJ0 yJ0_charAt_5068e wsJ0_charAt_5068e) := goodIn_app (goodIn_of _ (by decide +kernel)) ggX5_isWord_J0_charAt_5068e
theorem dX5_isWord_0 : decode cX5_isWord 0 = .ok (.aload_n 0, 1) := by decide +kernel
theorem dX5_isWord_1 : decode cX5_isWord 1 = .ok (.getfield 29, 3) := by decide +kernel
theorem dX5_isWord_4 : decode cX5_isWord 4 = .ok (.iconst 1, 1) := by decide +kernel
theorem dX5_isWord_5 : decode cX5_isWord 5 = .ok (.if_icmp .ne 19, 3) := by decide +kernel
theorem dX5_isWord_8 : decode cX5_isWord 8 = .ok (.aload_n 0, 1) := by decide +kernel
theorem dX5_isWord_9 : decode cX5_isWord 9 = .ok (.getfield 36, 3) := by decide +kernel
theorem dX5_isWord_12 : decode cX5_isWord 12 = .ok (.aload_n 0, 1) := by decide +kernel
theorem dX5_isWord_13 : decode cX5_isWord 13 = .ok (.getfield 33, 3) := by decide +kernel
theorem dX5_isWord_16 : decode cX5_isWord 16 = .ok (.isub, 1) := by decide +kernel
theorem dX5_isWord_17 : decode cX5_isWord 17 = .ok (.aload_n 1, 1) := by decide +kernel
theorem dX5_isWord_18 : decode cX5_isWord 18 = .ok (.invokevirtual 172, 3) := by decide +kernel
theorem dX5_isWord_21 : decode cX5_isWord 21 = .ok (.if_icmp .eq 5, 3) := by decide +kernel
theorem dX5_isWord_24 : decode cX5_isWord 24 = .ok (.iconst 0, 1) := by decide +kernel
theorem dX5_isWord_25 : decode cX5_isWord 25 = .ok (.ireturn, 1) := by decide +kernel
theorem dX5_isWord_26 : decode cX5_isWord 26 = .ok (.iconst 0, 1) := by decide +kernel
theorem dX5_isWord_27 : decode cX5_isWord 27 = .ok (.istore_n 2, 1) := by decide +kernel
theorem dX5_isWord_28 : decode cX5_isWord 28 = .ok (.iload_n 2, 1) := by decide +kernel
theorem dX5_isWord_29 : decode cX5_isWord 29 = .ok (.aload_n 1, 1) := by decide +kernel
theorem dX5_isWord_30 : decode cX5_isWord 30 = .ok (.invokevirtual 172, 3) := by decide +kernel
theorem dX5_isWord_33 : decode cX5_isWord 33 = .ok (.if_icmp .ge 32, 3) := by decide +kernel
theorem dX5_isWord_36 : decode cX5_isWord 36 = .ok (.aload_n 0, 1) := by decide +kernel
theorem dX5_isWord_37 : decode cX5_isWord 37 = .ok (.getfield 12, 3) := by decide +kernel
theorem dX5_isWord_40 : decode cX5_isWord 40 = .ok (.aload_n 0, 1) := by decide +kernel
theorem dX5_isWord_41 : decode cX5_isWord 41 = .ok (.getfield 33, 3) := by decide +kernel
theorem dX5_isWord_44 : decode cX5_isWord 44 = .ok (.iload_n 2, 1) := by decide +kernel
theorem dX5_isWord_45 : decode cX5_isWord 45 = .ok (.iadd, 1) := by decide +kernel
theorem dX5_isWord_46 : decode cX5_isWord 46 = .ok (.invokevirtual 156, 3) := by decide +kernel
theorem dX5_isWord_49 : decode cX5_isWord 49 = .ok (.aload_n 1, 1) := by decide +kernel
theorem dX5_isWord_50 : decode cX5_isWord 50 = .ok (.iload_n 2, 1) := by decide +kernel
theorem dX5_isWord_51 : decode cX5_isWord 51 = .ok (.invokevirtual 178, 3) := by decide +kernel
theorem dX5_isWord_54 : decode cX5_isWord 54 = .ok (.if_icmp .eq 5, 3) := by decide +kernel
theorem dX5_isWord_57 : decode cX5_isWord 57 = .ok (.iconst 0, 1) := by decide +kernel
theorem dX5_isWord_58 : decode cX5_isWord 58 = .ok (.ireturn, 1) := by decide +kernel
theorem dX5_isWord_59 : decode cX5_isWord 59 = .ok (.iinc 2 1, 3) := by decide +kernel
theorem dX5_isWord_62 : decode cX5_isWord 62 = .ok (.goto (-34), 3) := by decide +kernel
theorem dX5_isWord_65 : decode cX5_isWord 65 = .ok (.iconst 1, 1) := by decide +kernel
theorem dX5_isWord_66 : decode cX5_isWord 66 = .ok (.ireturn, 1) := by decide +kernel
theorem dX6_init_0 : decode cX6_init 0 = .ok (.aload_n 0, 1) := by decide +kernel
theorem dX6_init_1 : decode cX6_init 1 = .ok (.invokespecial 3, 3) := by decide +kernel
theorem dX6_init_4 : decode cX6_init 4 = .ok (.aload_n 0, 1) := by decide +kernel
theorem dX6_init_5 : decode cX6_init 5 = .ok (.bipush 50, 2) := by decide +kernel
theorem dX6_init_7 : decode cX6_init 7 = .ok (.newarray .int, 2) := by decide +kernel
theorem dX6_init_9 : decode cX6_init 9 = .ok (.putfield 9, 3) := by decide +kernel
theorem dX6_init_12 : decode cX6_init 12 = .ok (.aload_n 0, 1) := by decide +kernel
theorem dX6_init_13 : decode cX6_init 13 = .ok (.bipush 50, 2) := by decide +kernel
theorem dX6_init_15 : decode cX6_init 15 = .ok (.newarray .int, 2) := by decide +kernel
theorem dX6_init_17 : decode cX6_init 17 = .ok (.putfield 15, 3) := by decide +kernel
theorem dX6_init_20 : decode cX6_init 20 = .ok (.aload_n 0, 1) := by decide +kernel
theorem dX6_init_21 : decode cX6_init 21 = .ok (.iconst 0, 1) := by decide +kernel
theorem dX6_init_22 : decode cX6_init 22 = .ok (.putfield 18, 3) := by decide +kernel
theorem dX6_init_25 : decode cX6_init 25 = .ok (.return_, 1) := by decide +kernel
set_option maxRecDepth 20000 in
theorem ggX6_makeRuns_X7_empty : GoodIn wsX6_makeRuns wsX7_empty := goodIn_r _ [12, 13, 14, 76, 77, 78, 79, 80] (by decide +kernel) (by decide +kernel)
set_option maxRecDepth 20000 in
theorem gX6_makeRuns_X7_empty : GoodIn wsX6_makeRuns (wsV RX6 22 RX7 yX7_empty wsX7_empty) := goodIn_app (goodIn_of _ (by decide +kernel)) ggX6_makeRuns_X7_empty
set_option maxRecDepth 20000 in
theorem ggX6_makeRuns_X6_makeFull : GoodIn wsX6_makeRuns wsX6_makeFull := goodIn_r _ [19, 20, 21, 22, 23, 24, 25, 26, 27, 28, 29, 30, 31, 32, 33, 34, 35, 36, 37, 18, 38, 39, 40, 41, 11, 42, 13, 43, 14, 44, 45, 46, 47, 48, 49, 81, 82, 83, 84, 85, 86, 87, 88, 76, 77, 78, 79, 80] (by decide +kernel) (by decide +kernel)
set_option maxRecDepth 20000 in
theorem gX6_makeRuns_X6_makeFull : GoodIn wsX6_makeRuns (wsV RX6 46 RX6 yX6_makeFull wsX6_makeFull) := goodIn_app (goodIn_of _ (by decide +kernel)) ggX6_makeRuns_X6_makeFull
set_option maxRecDepth 20000 in
theorem ggX6_makeRuns_X6_makeByReplacement : GoodIn wsX6_makeRuns wsX6_makeByReplacement := goodIn_r _ [53, 20, 21, 22, 23, 24, 25, 26, 27, 28, 29, 30, 31, 32, 33, 34, 54, 55, 56, 18, 57, 58, 59, 60, 61, 62, 39, 40, 41, 11, 42, 13, 43, 14, 44, 45, 46, 47, 48, 49, 63, 64, 65, 66, 81, 82, 83, 84, 85, 76, 77, 78, 79, 80, 86, 87, 88] (by decide +kernel) (by decide +kernel)
set_option maxRecDepth 20000 in
theorem gX6_makeRuns_X6_makeByReplacement : GoodIn wsX6_makeRuns (wsV RX6 50 RX6 yX6_makeByReplacement wsX6_makeByReplacement) := goodIn_app (goodIn_of _ (by decide +kernel)) ggX6_makeRuns_X6_makeByReplacement
set_option maxRecDepth 20000 in
theorem ggX6_makeRuns_X6_makeNatural : GoodIn wsX6_makeRuns wsX6_makeNatural := goodIn_r _ [70, 22, 23, 24, 25, 26, 27, 28, 29, 30, 31, 32, 33, 34, 39, 40, 41, 11, 42, 13, 43, 14, 44, 45, 46, 47, 48, 49, 84, 85, 86, 87, 88, 76, 77, 78, 79, 80] (by decide +kernel) (by decide +kernel)
set_option maxRecDepth 20000 in
theorem gX6_makeRuns_X6_makeNatural : GoodIn wsX6_makeRuns (wsV RX6 53 RX6 yX6_makeNatural wsX6_makeNatural) := goodIn_app (goodIn_of _ (by decide +kernel)) ggX6_makeRuns_X6_makeNatural
theorem dX6_makeRuns_0 : decode cX6_makeRuns 0 = .ok (.aload 4, 2) := by decide +kernel
theorem dX6_makeRuns_2 : decode cX6_makeRuns 2 = .ok (.invokevirtual 22, 3) := by decide +kernel
theorem dX6_makeRuns_5 : decode cX6_makeRuns 5 = .ok (.iconst 1, 1) := by decide +kernel
theorem dX6_makeRuns_6 : decode cX6_makeRuns 6 = .ok (.aload_n 3, 1) := by decide +kernel
theorem dX6_makeRuns_7 : decode cX6_makeRuns 7 = .ok (.getfield 27, 3) := by decide +kernel
theorem dX6_makeRuns_10 : decode cX6_makeRuns 10 = .ok (.bipush 50, 2) := by decide +kernel
theorem dX6_makeRuns_12 : decode cX6_makeRuns 12 = .ok (.invokestatic 31, 3) := by decide +kernel
theorem dX6_makeRuns_15 : decode cX6_makeRuns 15 = .ok (.invokestatic 37, 3) := by decide +kernel
theorem dX6_makeRuns_18 : decode cX6_makeRuns 18 = .ok (.istore 5, 2) := by decide +kernel
theorem dX6_makeRuns_20 : decode cX6_makeRuns 20 = .ok (.aload_n 3, 1) := by decide +kernel
theorem dX6_makeRuns_21 : decode cX6_makeRuns 21 = .ok (.getfield 40, 3) := by decide +kernel
theorem dX6_makeRuns_24 : decode cX6_makeRuns 24 = .ok (.ifCond .ne 20, 3) := by decide +kernel
theorem dX6_makeRuns_27 : decode cX6_makeRuns 27 = .ok (.aload_n 0, 1) := by decide +kernel
theorem dX6_makeRuns_28 : decode cX6_makeRuns 28 = .ok (.aload_n 1, 1) := by decide +kernel
theorem dX6_makeRuns_29 : decode cX6_makeRuns 29 = .ok (.aload_n 2, 1) := by decide +kernel
theorem dX6_makeRuns_30 : decode cX6_makeRuns 30 = .ok (.aload_n 3, 1) := by decide +kernel
theorem dX6_makeRuns_31 : decode cX6_makeRuns 31 = .ok (.getfield 43, 3) := by decide +kernel
theorem dX6_makeRuns_34 : decode cX6_makeRuns 34 = .ok (.iload 5, 2) := by decide +kernel
theorem dX6_makeRuns_36 : decode cX6_makeRuns 36 = .ok (.aload 4, 2) := by decide +kernel
theorem dX6_makeRuns_38 : decode cX6_makeRuns 38 = .ok (.invokevirtual 46, 3) := by decide +kernel
theorem dX6_makeRuns_41 : decode cX6_makeRuns 41 = .ok (.goto 40, 3) := by decide +kernel
theorem dX6_makeRuns_44 : decode cX6_makeRuns 44 = .ok (.aload_n 3, 1) := by decide +kernel
theorem dX6_makeRuns_45 : decode cX6_makeRuns 45 = .ok (.getfield 40, 3) := by decide +kernel
theorem dX6_makeRuns_48 : decode cX6_makeRuns 48 = .ok (.iconst 1, 1) := by decide +kernel
theorem dX6_makeRuns_49 : decode cX6_makeRuns 49 = .ok (.if_icmp .ne 20, 3) := by decide +kernel
theorem dX6_makeRuns_52 : decode cX6_makeRuns 52 = .ok (.aload_n 0, 1) := by decide +kernel
theorem dX6_makeRuns_53 : decode cX6_makeRuns 53 = .ok (.aload_n 1, 1) := by decide +kernel
theorem dX6_makeRuns_54 : decode cX6_makeRuns 54 = .ok (.aload_n 2, 1) := by decide +kernel
theorem dX6_makeRuns_55 : decode cX6_makeRuns 55 = .ok (.aload_n 3, 1) := by decide +kernel
theorem dX6_makeRuns_56 : decode cX6_makeRuns 56 = .ok (.getfield 43, 3) := by decide +kernel
theorem dX6_makeRuns_59 : decode cX6_makeRuns 59 = .ok (.iload 5, 2) := by decide +kernel
theorem dX6_makeRuns_61 : decode cX6_makeRuns 61 = .ok (.aload 4, 2) := by decide +kernel
theorem dX6_makeRuns_63 : decode cX6_makeRuns 63 = .ok (.invokevirtual 50, 3) := by decide +kernel
theorem dX6_makeRuns_66 : decode cX6_makeRuns 66 = .ok (.goto 15, 3) := by decide +kernel
theorem dX6_makeRuns_69 : decode cX6_makeRuns 69 = .ok (.aload_n 0, 1) := by decide +kernel
theorem dX6_makeRuns_70 : decode cX6_makeRuns 70 = .ok (.aload_n 1, 1) := by decide +kernel
theorem dX6_makeRuns_71 : decode cX6_makeRuns 71 = .ok (.aload_n 2, 1) := by decide +kernel
theorem dX6_makeRuns_72 : decode cX6_makeRuns 72 = .ok (.aload_n 3, 1) := by decide +kernel
theorem dX6_makeRuns_73 : decode cX6_makeRuns 73 = .ok (.getfield 43, 3) := by decide +kernel
theorem dX6_makeRuns_76 : decode cX6_makeRuns 76 = .ok (.aload 4, 2) := by decide +kernel
theorem dX6_makeRuns_78 : decode cX6_makeRuns 78 = .ok (.invokevirtual 53, 3) := by decide +kernel
theorem dX6_makeRuns_81 : decode cX6_makeRuns 81 = .ok (.return_, 1) := by decide +kernel
set_option maxRecDepth 20000 in
theorem ggX6_makeFull_X9_recordAt : GoodIn wsX6_makeFull wsX9_recordAt := goodIn_r _ [7, 8, 9, 38, 39] (by decide +kernel) (by decide +kernel)
set_option maxRecDepth 20000 in
theorem gX6_makeFull_X9_recordAt : GoodIn wsX6_makeFull (wsV RX6 62 RX9 yX9_recordAt wsX9_recordAt) := goodIn_app (goodIn_of _ (by decide +kernel)) ggX6_makeFull_X9_recordAt
set_option maxRecDepth 20000 in
theorem ggX6_makeFull_X0_rankOf : GoodIn wsX6_makeFull wsX0_rankOf := goodIn_r _ [14, 15, 40, 41, 42] (by decide +kernel) (by decide +kernel)
set_option maxRecDepth 20000 in
theorem gX6_makeFull_X0_rankOf : GoodIn wsX6_makeFull (wsV RX6 66 RX0 yX0_rankOf wsX0_rankOf) := goodIn_app (goodIn_of _ (by decide +kernel)) ggX6_makeFull_X0_rankOf
set_option maxRecDepth 20000 in
theorem ggX6_makeFull_X6_holdInOrder : GoodIn wsX6_makeFull wsX6_holdInOrder := goodIn_r _ [20, 1, 2, 35, 36, 37] (by decide +kernel) (by decide +kernel)
set_option maxRecDepth 20000 in
theorem gX6_makeFull_X6_holdInOrder : GoodIn wsX6_makeFull (wsV RX6 71 RX6 yX6_holdInOrder wsX6_holdInOrder) := goodIn_app (goodIn_of _ (by decide +kernel)) ggX6_makeFull_X6_holdInOrder
set_option maxRecDepth 20000 in
theorem ggX6_makeFull_X7_openRun : GoodIn wsX6_makeFull wsX7_openRun := goodIn_r _ [25, 26, 27, 28, 29, 43, 44, 45, 46, 47] (by decide +kernel) (by decide +kernel)
set_option maxRecDepth 20000 in
theorem gX6_makeFull_X7_openRun : GoodIn wsX6_makeFull (wsV RX6 75 RX7 yX7_openRun wsX7_openRun) := goodIn_app (goodIn_of _ (by decide +kernel)) ggX6_makeFull_X7_openRun
set_option maxRecDepth 20000 in
theorem ggX6_makeFull_X7_add : GoodIn wsX6_makeFull wsX7_add := goodIn_r _ [33, 26, 28, 34, 29, 43, 44, 45, 46, 47] (by decide +kernel) (by decide +kernel)
set_option maxRecDepth 20000 in
theorem gX6_makeFull_X7_add : GoodIn wsX6_makeFull (wsV RX6 78 RX7 yX7_add wsX7_add) := goodIn_app (goodIn_of _ (by decide +kernel)) ggX6_makeFull_X7_add
theorem dX6_makeFull_0 : decode cX6_makeFull 0 = .ok (.aload_n 0, 1) := by decide +kernel
theorem dX6_makeFull_1 : decode cX6_makeFull 1 = .ok (.iconst 0, 1) := by decide +kernel
theorem dX6_makeFull_2 : decode cX6_makeFull 2 = .ok (.putfield 18, 3) := by decide +kernel
theorem dX6_makeFull_5 : decode cX6_makeFull 5 = .ok (.iconst 0, 1) := by decide +kernel
theorem dX6_makeFull_6 : decode cX6_makeFull 6 = .ok (.istore 6, 2) := by decide +kernel
theorem dX6_makeFull_8 : decode cX6_makeFull 8 = .ok (.iload 6, 2) := by decide +kernel
theorem dX6_makeFull_10 : decode cX6_makeFull 10 = .ok (.aload_n 2, 1) := by decide +kernel
theorem dX6_makeFull_11 : decode cX6_makeFull 11 = .ok (.getfield 57, 3) := by decide +kernel
theorem dX6_makeFull_14 : decode cX6_makeFull 14 = .ok (.if_icmp .ge 91, 3) := by decide +kernel
theorem dX6_makeFull_17 : decode cX6_makeFull 17 = .ok (.aload_n 0, 1) := by decide +kernel
theorem dX6_makeFull_18 : decode cX6_makeFull 18 = .ok (.aload_n 1, 1) := by decide +kernel
theorem dX6_makeFull_19 : decode cX6_makeFull 19 = .ok (.aload_n 2, 1) := by decide +kernel
theorem dX6_makeFull_20 : decode cX6_makeFull 20 = .ok (.iload 6, 2) := by decide +kernel
theorem dX6_makeFull_22 : decode cX6_makeFull 22 = .ok (.invokevirtual 62, 3) := by decide +kernel
theorem dX6_makeFull_25 : decode cX6_makeFull 25 = .ok (.iload_n 3, 1) := by decide +kernel
theorem dX6_makeFull_26 : decode cX6_makeFull 26 = .ok (.invokevirtual 66, 3) := by decide +kernel
theorem dX6_makeFull_29 : decode cX6_makeFull 29 = .ok (.invokevirtual 71, 3) := by decide +kernel
theorem dX6_makeFull_32 : decode cX6_makeFull 32 = .ok (.aload_n 0, 1) := by decide +kernel
theorem dX6_makeFull_33 : decode cX6_makeFull 33 = .ok (.getfield 18, 3) := by decide +kernel
theorem dX6_makeFull_36 : decode cX6_makeFull 36 = .ok (.iload 4, 2) := by decide +kernel
theorem dX6_makeFull_38 : decode cX6_makeFull 38 = .ok (.if_icmp .ge 14, 3) := by decide +kernel
theorem dX6_makeFull_41 : decode cX6_makeFull 41 = .ok (.iload 6, 2) := by decide +kernel
theorem dX6_makeFull_43 : decode cX6_makeFull 43 = .ok (.aload_n 2, 1) := by decide +kernel
theorem dX6_makeFull_44 : decode cX6_makeFull 44 = .ok (.getfield 57, 3) := by decide +kernel
theorem dX6_makeFull_47 : decode cX6_makeFull 47 = .ok (.iconst 1, 1) := by decide +kernel
theorem dX6_makeFull_48 : decode cX6_makeFull 48 = .ok (.isub, 1) := by decide +kernel
theorem dX6_makeFull_49 : decode cX6_makeFull 49 = .ok (.if_icmp .ne 50, 3) := by decide +kernel
theorem dX6_makeFull_52 : decode cX6_makeFull 52 = .ok (.aload 5, 2) := by decide +kernel
theorem dX6_makeFull_54 : decode cX6_makeFull 54 = .ok (.invokevirtual 75, 3) := by decide +kernel
theorem dX6_makeFull_57 : decode cX6_makeFull 57 = .ok (.iconst 0, 1) := by decide +kernel
theorem dX6_makeFull_58 : decode cX6_makeFull 58 = .ok (.istore 7, 2) := by decide +kernel
theorem dX6_makeFull_60 : decode cX6_makeFull 60 = .ok (.iload 7, 2) := by decide +kernel
theorem dX6_makeFull_62 : decode cX6_makeFull 62 = .ok (.aload_n 0, 1) := by decide +kernel
theorem dX6_makeFull_63 : decode cX6_makeFull 63 = .ok (.getfield 18, 3) := by decide +kernel
theorem dX6_makeFull_66 : decode cX6_makeFull 66 = .ok (.if_icmp .ge 28, 3) := by decide +kernel
theorem dX6_makeFull_69 : decode cX6_makeFull 69 = .ok (.iload 7, 2) := by decide +kernel
theorem dX6_makeFull_71 : decode cX6_makeFull 71 = .ok (.bipush 50, 2) := by decide +kernel
theorem dX6_makeFull_73 : decode cX6_makeFull 73 = .ok (.if_icmp .ge 21, 3) := by decide +kernel
theorem dX6_makeFull_76 : decode cX6_makeFull 76 = .ok (.aload 5, 2) := by decide +kernel
theorem dX6_makeFull_78 : decode cX6_makeFull 78 = .ok (.aload_n 0, 1) := by decide +kernel
theorem dX6_makeFull_79 : decode cX6_makeFull 79 = .ok (.getfield 9, 3) := by decide +kernel
theorem dX6_makeFull_82 : decode cX6_makeFull 82 = .ok (.iload 7, 2) := by decide +kernel
theorem dX6_makeFull_84 : decode cX6_makeFull 84 = .ok (.iaload, 1) := by decide +kernel
theorem dX6_makeFull_85 : decode cX6_makeFull 85 = .ok (.invokevirtual 78, 3) := by decide +kernel
theorem dX6_makeFull_88 : decode cX6_makeFull 88 = .ok (.iinc 7 1, 3) := by decide +kernel
theorem dX6_makeFull_91 : decode cX6_makeFull 91 = .ok (.goto (-31), 3) := by decide +kernel
theorem dX6_makeFull_94 : decode cX6_makeFull 94 = .ok (.aload_n 0, 1) := by decide +kernel
theorem dX6_makeFull_95 : decode cX6_makeFull 95 = .ok (.iconst 0, 1) := by decide +kernel
theorem dX6_makeFull_96 : decode cX6_makeFull 96 = .ok (.putfield 18, 3) := by decide +kernel
theorem dX6_makeFull_99 : decode cX6_makeFull 99 = .ok (.iinc 6 1, 3) := by decide +kernel
theorem dX6_makeFull_102 : decode cX6_makeFull 102 = .ok (.goto (-94), 3) := by decide +kernel
theorem dX6_makeFull_105 : decode cX6_makeFull 105 = .ok (.return_, 1) := by decide +kernel
theorem dX6_holdInOrder_0 : decode cX6_holdInOrder 0 = .ok (.aload_n 0, 1) := by decide +kernel
theorem dX6_holdInOrder_1 : decode cX6_holdInOrder 1 = .ok (.getfield 18, 3) := by decide +kernel
theorem dX6_holdInOrder_4 : decode cX6_holdInOrder 4 = .ok (.ifCond .lt 12, 3) := by decide +kernel
theorem dX6_holdInOrder_7 : decode cX6_holdInOrder 7 = .ok (.aload_n 0, 1) := by decide +kernel
theorem dX6_holdInOrder_8 : decode cX6_holdInOrder 8 = .ok (.getfield 18, 3) := by decide +kernel
theorem dX6_holdInOrder_11 : decode cX6_holdInOrder 11 = .ok (.bipush 50, 2) := by decide +kernel
theorem dX6_holdInOrder_13 : decode cX6_holdInOrder 13 = .ok (.if_icmp .lt 4, 3) := by decide +kernel
theorem dX6_holdInOrder_16 : decode cX6_holdInOrder 16 = .ok (.return_, 1) := by decide +kernel
theorem dX6_holdInOrder_17 : decode cX6_holdInOrder 17 = .ok (.aload_n 0, 1) := by decide +kernel
theorem dX6_holdInOrder_18 : decode cX6_holdInOrder 18 = .ok (.getfield 18, 3) := by decide +kernel
theorem dX6_holdInOrder_21 : decode cX6_holdInOrder 21 = .ok (.istore_n 2, 1) := by decide +kernel
theorem dX6_holdInOrder_22 : decode cX6_holdInOrder 22 = .ok (.iload_n 2, 1) := by decide +kernel
theorem dX6_holdInOrder_23 : decode cX6_holdInOrder 23 = .ok (.ifCond .le 35, 3) := by decide +kernel
theorem dX6_holdInOrder_26 : decode cX6_holdInOrder 26 = .ok (.aload_n 0, 1) := by decide +kernel
theorem dX6_holdInOrder_27 : decode cX6_holdInOrder 27 = .ok (.getfield 9, 3) := by decide +kernel
theorem dX6_holdInOrder_30 : decode cX6_holdInOrder 30 = .ok (.iload_n 2, 1) := by decide +kernel
theorem dX6_holdInOrder_31 : decode cX6_holdInOrder 31 = .ok (.iconst 1, 1) := by decide +kernel
theorem dX6_holdInOrder_32 : decode cX6_holdInOrder 32 = .ok (.isub, 1) := by decide +kernel
theorem dX6_holdInOrder_33 : decode cX6_holdInOrder 33 = .ok (.iaload, 1) := by decide +kernel
theorem dX6_holdInOrder_34 : decode cX6_holdInOrder 34 = .ok (.iload_n 1, 1) := by decide +kernel
theorem dX6_holdInOrder_35 : decode cX6_holdInOrder 35 = .ok (.if_icmp .le 23, 3) := by decide +kernel
theorem dX6_holdInOrder_38 : decode cX6_holdInOrder 38 = .ok (.aload_n 0, 1) := by decide +kernel
theorem dX6_holdInOrder_39 : decode cX6_holdInOrder 39 = .ok (.getfield 9, 3) := by decide +kernel
theorem dX6_holdInOrder_42 : decode cX6_holdInOrder 42 = .ok (.iload_n 2, 1) := by decide +kernel
theorem dX6_holdInOrder_43 : decode cX6_holdInOrder 43 = .ok (.aload_n 0, 1) := by decide +kernel
theorem dX6_holdInOrder_44 : decode cX6_holdInOrder 44 = .ok (.getfield 9, 3) := by decide +kernel
theorem dX6_holdInOrder_47 : decode cX6_holdInOrder 47 = .ok (.iload_n 2, 1) := by decide +kernel
theorem dX6_holdInOrder_48 : decode cX6_holdInOrder 48 = .ok (.iconst 1, 1) := by decide +kernel
theorem dX6_holdInOrder_49 : decode cX6_holdInOrder 49 = .ok (.isub, 1) := by decide +kernel
theorem dX6_holdInOrder_50 : decode cX6_holdInOrder 50 = .ok (.iaload, 1) := by decide +kernel
theorem dX6_holdInOrder_51 : decode cX6_holdInOrder 51 = .ok (.iastore, 1) := by decide +kernel
theorem dX6_holdInOrder_52 : decode cX6_holdInOrder 52 = .ok (.iinc 2 (-1), 3) := by decide +kernel
theorem dX6_holdInOrder_55 : decode cX6_holdInOrder 55 = .ok (.goto (-33), 3) := by decide +kernel
theorem dX6_holdInOrder_58 : decode cX6_holdInOrder 58 = .ok (.aload_n 0, 1) := by decide +kernel
theorem dX6_holdInOrder_59 : decode cX6_holdInOrder 59 = .ok (.getfield 9, 3) := by decide +kernel
theorem dX6_holdInOrder_62 : decode cX6_holdInOrder 62 = .ok (.iload_n 2, 1) := by decide +kernel
theorem dX6_holdInOrder_63 : decode cX6_holdInOrder 63 = .ok (.iload_n 1, 1) := by decide +kernel
theorem dX6_holdInOrder_64 : decode cX6_holdInOrder 64 = .ok (.iastore, 1) := by decide +kernel
theorem dX6_holdInOrder_65 : decode cX6_holdInOrder 65 = .ok (.aload_n 0, 1) := by decide +kernel
theorem dX6_holdInOrder_66 : decode cX6_holdInOrder 66 = .ok (.dup, 1) := by decide +kernel
theorem dX6_holdInOrder_67 : decode cX6_holdInOrder 67 = .ok (.getfield 18, 3) := by decide +kernel
theorem dX6_holdInOrder_70 : decode cX6_holdInOrder 70 = .ok (.iconst 1, 1) := by decide +kernel
theorem dX6_holdInOrder_71 : decode cX6_holdInOrder 71 = .ok (.iadd, 1) := by decide +kernel
theorem dX6_holdInOrder_72 : decode cX6_holdInOrder 72 = .ok (.putfield 18, 3) := by decide +kernel
theorem dX6_holdInOrder_75 : decode cX6_holdInOrder 75 = .ok (.return_, 1) := by decide +kernel
set_option maxRecDepth 20000 in
theorem ggX6_makeByReplacement_X9_recordAt : GoodIn wsX6_makeByReplacement wsX9_recordAt := goodIn_r _ [7, 8, 9, 47, 48] (by decide +kernel) (by decide +kernel)
set_option maxRecDepth 20000 in
theorem gX6_makeByReplacement_X9_recordAt : GoodIn wsX6_makeByReplacement (wsV RX6 62 RX9 yX9_recordAt wsX9_recordAt) := goodIn_app (goodIn_of _ (by decide +kernel)) ggX6_makeByReplacement_X9_recordAt
set_option maxRecDepth 20000 in
theorem ggX6_makeByReplacement_X0_rankOf : GoodIn wsX6_makeByReplacement wsX0_rankOf := goodIn_r _ [14, 15, 54, 55, 56] (by decide +kernel) (by decide +kernel)
set_option maxRecDepth 20000 in
theorem gX6_makeByReplacement_X0_rankOf : GoodIn wsX6_makeByReplacement (wsV RX6 66 RX0 yX0_rankOf wsX0_rankOf) := goodIn_app (goodIn_of _ (by decide +kernel)) ggX6_makeByReplacement_X0_rankOf
set_option maxRecDepth 20000 in
theorem ggX6_makeByReplacement_X6_hold : GoodIn wsX6_makeByReplacement wsX6_hold := goodIn_r _ [20, 2, 21, 44, 45, 46] (by decide +kernel) (by decide +kernel)
set_option maxRecDepth 20000 in
theorem gX6_makeByReplacement_X6_hold : GoodIn wsX6_makeByReplacement (wsV RX6 81 RX6 yX6_hold wsX6_hold) := goodIn_app (goodIn_of _ (by decide +kernel)) ggX6_makeByReplacement_X6_hold
set_option maxRecDepth 20000 in
theorem ggX6_makeByReplacement_X6_leastOf : GoodIn wsX6_makeByReplacement wsX6_leastOf := goodIn_r _ [25, 1, 21, 2, 44, 45, 46] (by decide +kernel) (by decide +kernel)
set_option maxRecDepth 20000 in
theorem gX6_makeByReplacement_X6_leastOf : GoodIn wsX6_makeByReplacement (wsV RX6 85 RX6 yX6_leastOf wsX6_leastOf) := goodIn_app (goodIn_of _ (by decide +kernel)) ggX6_makeByReplacement_X6_leastOf
set_option maxRecDepth 20000 in
theorem ggX6_makeByReplacement_X7_openRun : GoodIn wsX6_makeByReplacement wsX7_openRun := goodIn_r _ [30, 31, 32, 33, 34, 49, 50, 51, 52, 53] (by decide +kernel) (by decide +kernel)
set_option maxRecDepth 20000 in
theorem gX6_makeByReplacement_X7_openRun : GoodIn wsX6_makeByReplacement (wsV RX6 75 RX7 yX7_openRun wsX7_openRun) := goodIn_app (goodIn_of _ (by decide +kernel)) ggX6_makeByReplacement_X7_openRun
set_option maxRecDepth 20000 in
theorem ggX6_makeByReplacement_X7_add : GoodIn wsX6_makeByReplacement wsX7_add := goodIn_r _ [38, 31, 33, 39, 34, 49, 50, 51, 52, 53] (by decide +kernel) (by decide +kernel)
set_option maxRecDepth 20000 in
theorem gX6_makeByReplacement_X7_add : GoodIn wsX6_makeByReplacement (wsV RX6 78 RX7 yX7_add wsX7_add) := goodIn_app (goodIn_of _ (by decide +kernel)) ggX6_makeByReplacement_X7_add
set_option maxRecDepth 20000 in
theorem ggX6_makeByReplacement_X6_drop : GoodIn wsX6_makeByReplacement wsX6_drop := goodIn_r _ [43, 1, 2, 21, 44, 45, 46] (by decide +kernel) (by decide +kernel)
set_option maxRecDepth 20000 in
theorem gX6_makeByReplacement_X6_drop : GoodIn wsX6_makeByReplacement (wsV RX6 91 RX6 yX6_drop wsX6_drop) := goodIn_app (goodIn_of _ (by decide +kernel)) ggX6_makeByReplacement_X6_drop
theorem dX6_makeByReplacement_0 : decode cX6_makeByReplacement 0 = .ok (.aload_n 0, 1) := by decide +kernel
theorem dX6_makeByReplacement_1 : decode cX6_makeByReplacement 1 = .ok (.iconst 0, 1) := by decide +kernel
theorem dX6_makeByReplacement_2 : decode cX6_makeByReplacement 2 = .ok (.putfield 18, 3) := by decide +kernel
theorem dX6_makeByReplacement_5 : decode cX6_makeByReplacement 5 = .ok (.iconst 0, 1) := by decide +kernel
theorem dX6_makeByReplacement_6 : decode cX6_makeByReplacement 6 = .ok (.istore 6, 2) := by decide +kernel
theorem dX6_makeByReplacement_8 : decode cX6_makeByReplacement 8 = .ok (.iload 6, 2) := by decide +kernel
theorem dX6_makeByReplacement_10 : decode cX6_makeByReplacement 10 = .ok (.aload_n 2, 1) := by decide +kernel
theorem dX6_makeByReplacement_11 : decode cX6_makeByReplacement 11 = .ok (.getfield 57, 3) := by decide +kernel
theorem dX6_makeByReplacement_14 : decode cX6_makeByReplacement 14 = .ok (.if_icmp .ge 34, 3) := by decide +kernel
theorem dX6_makeByReplacement_17 : decode cX6_makeByReplacement 17 = .ok (.iload 6, 2) := by decide +kernel
theorem dX6_makeByReplacement_19 : decode cX6_makeByReplacement 19 = .ok (.iload 4, 2) := by decide +kernel
theorem dX6_makeByReplacement_21 : decode cX6_makeByReplacement 21 = .ok (.if_icmp .ge 27, 3) := by decide +kernel
theorem dX6_makeByReplacement_24 : decode cX6_makeByReplacement 24 = .ok (.aload_n 0, 1) := by decide +kernel
theorem dX6_makeByReplacement_25 : decode cX6_makeByReplacement 25 = .ok (.iload 6, 2) := by decide +kernel
theorem dX6_makeByReplacement_27 : decode cX6_makeByReplacement 27 = .ok (.aload_n 1, 1) := by decide +kernel
theorem dX6_makeByReplacement_28 : decode cX6_makeByReplacement 28 = .ok (.aload_n 2, 1) := by decide +kernel
theorem dX6_makeByReplacement_29 : decode cX6_makeByReplacement 29 = .ok (.iload 6, 2) := by decide +kernel
theorem dX6_makeByReplacement_31 : decode cX6_makeByReplacement 31 = .ok (.invokevirtual 62, 3) := by decide +kernel
theorem dX6_makeByReplacement_34 : decode cX6_makeByReplacement 34 = .ok (.iload_n 3, 1) := by decide +kernel
theorem dX6_makeByReplacement_35 : decode cX6_makeByReplacement 35 = .ok (.invokevirtual 66, 3) := by decide +kernel
theorem dX6_makeByReplacement_38 : decode cX6_makeByReplacement 38 = .ok (.iconst 0, 1) := by decide +kernel
theorem dX6_makeByReplacement_39 : decode cX6_makeByReplacement 39 = .ok (.invokevirtual 81, 3) := by decide +kernel
theorem dX6_makeByReplacement_42 : decode cX6_makeByReplacement 42 = .ok (.iinc 6 1, 3) := by decide +kernel
theorem dX6_makeByReplacement_45 : decode cX6_makeByReplacement 45 = .ok (.goto (-37), 3) := by decide +kernel
theorem dX6_makeByReplacement_48 : decode cX6_makeByReplacement 48 = .ok (.aload_n 0, 1) := by decide +kernel
theorem dX6_makeByReplacement_49 : decode cX6_makeByReplacement 49 = .ok (.iload 6, 2) := by decide +kernel
theorem dX6_makeByReplacement_51 : decode cX6_makeByReplacement 51 = .ok (.putfield 18, 3) := by decide +kernel
theorem dX6_makeByReplacement_54 : decode cX6_makeByReplacement 54 = .ok (.iconst 0, 1) := by decide +kernel
theorem dX6_makeByReplacement_55 : decode cX6_makeByReplacement 55 = .ok (.istore 7, 2) := by decide +kernel
theorem dX6_makeByReplacement_57 : decode cX6_makeByReplacement 57 = .ok (.iconst 0, 1) := by decide +kernel
theorem dX6_makeByReplacement_58 : decode cX6_makeByReplacement 58 = .ok (.istore 8, 2) := by decide +kernel
theorem dX6_makeByReplacement_60 : decode cX6_makeByReplacement 60 = .ok (.iload 8, 2) := by decide +kernel
theorem dX6_makeByReplacement_62 : decode cX6_makeByReplacement 62 = .ok (.aload_n 2, 1) := by decide +kernel
theorem dX6_makeByReplacement_63 : decode cX6_makeByReplacement 63 = .ok (.getfield 57, 3) := by decide +kernel
theorem dX6_makeByReplacement_66 : decode cX6_makeByReplacement 66 = .ok (.if_icmp .ge 145, 3) := by decide +kernel
theorem dX6_makeByReplacement_69 : decode cX6_makeByReplacement 69 = .ok (.aload_n 0, 1) := by decide +kernel
theorem dX6_makeByReplacement_70 : decode cX6_makeByReplacement 70 = .ok (.iload 7, 2) := by decide +kernel
theorem dX6_makeByReplacement_72 : decode cX6_makeByReplacement 72 = .ok (.invokevirtual 85, 3) := by decide +kernel
theorem dX6_makeByReplacement_75 : decode cX6_makeByReplacement 75 = .ok (.istore 9, 2) := by decide +kernel
theorem dX6_makeByReplacement_77 : decode cX6_makeByReplacement 77 = .ok (.iload 9, 2) := by decide +kernel
theorem dX6_makeByReplacement_79 : decode cX6_makeByReplacement 79 = .ok (.iconst (-1), 1) := by decide +kernel
theorem dX6_makeByReplacement_80 : decode cX6_makeByReplacement 80 = .ok (.if_icmp .ne 14, 3) := by decide +kernel
theorem dX6_makeByReplacement_83 : decode cX6_makeByReplacement 83 = .ok (.iinc 7 1, 3) := by decide +kernel
theorem dX6_makeByReplacement_86 : decode cX6_makeByReplacement 86 = .ok (.aload_n 0, 1) := by decide +kernel
theorem dX6_makeByReplacement_87 : decode cX6_makeByReplacement 87 = .ok (.iload 7, 2) := by decide +kernel
theorem dX6_makeByReplacement_89 : decode cX6_makeByReplacement 89 = .ok (.invokevirtual 85, 3) := by decide +kernel
theorem dX6_makeByReplacement_92 : decode cX6_makeByReplacement 92 = .ok (.istore 9, 2) := by decide +kernel
theorem dX6_makeByReplacement_94 : decode cX6_makeByReplacement 94 = .ok (.iload 9, 2) := by decide +kernel
theorem dX6_makeByReplacement_96 : decode cX6_makeByReplacement 96 = .ok (.ifCond .lt 19, 3) := by decide +kernel
theorem dX6_makeByReplacement_99 : decode cX6_makeByReplacement 99 = .ok (.iload 9, 2) := by decide +kernel
theorem dX6_makeByReplacement_101 : decode cX6_makeByReplacement 101 = .ok (.aload_n 0, 1) := by decide +kernel
theorem dX6_makeByReplacement_102 : decode cX6_makeByReplacement 102 = .ok (.getfield 18, 3) := by decide +kernel
theorem dX6_makeByReplacement_105 : decode cX6_makeByReplacement 105 = .ok (.if_icmp .ge 10, 3) := by decide +kernel
theorem dX6_makeByReplacement_108 : decode cX6_makeByReplacement 108 = .ok (.iload 9, 2) := by decide +kernel
theorem dX6_makeByReplacement_110 : decode cX6_makeByReplacement 110 = .ok (.bipush 50, 2) := by decide +kernel
theorem dX6_makeByReplacement_112 : decode cX6_makeByReplacement 112 = .ok (.if_icmp .lt 4, 3) := by decide +kernel
theorem dX6_makeByReplacement_115 : decode cX6_makeByReplacement 115 = .ok (.return_, 1) := by decide +kernel
theorem dX6_makeByReplacement_116 : decode cX6_makeByReplacement 116 = .ok (.aload_n 0, 1) := by decide +kernel
theorem dX6_makeByReplacement_117 : decode cX6_makeByReplacement 117 = .ok (.getfield 9, 3) := by decide +kernel
theorem dX6_makeByReplacement_120 : decode cX6_makeByReplacement 120 = .ok (.iload 9, 2) := by decide +kernel
theorem dX6_makeByReplacement_122 : decode cX6_makeByReplacement 122 = .ok (.iaload, 1) := by decide +kernel
theorem dX6_makeByReplacement_123 : decode cX6_makeByReplacement 123 = .ok (.istore 10, 2) := by decide +kernel
theorem dX6_makeByReplacement_125 : decode cX6_makeByReplacement 125 = .ok (.aload 5, 2) := by decide +kernel
theorem dX6_makeByReplacement_127 : decode cX6_makeByReplacement 127 = .ok (.getfield 88, 3) := by decide +kernel
theorem dX6_makeByReplacement_130 : decode cX6_makeByReplacement 130 = .ok (.iload 7, 2) := by decide +kernel
theorem dX6_makeByReplacement_132 : decode cX6_makeByReplacement 132 = .ok (.if_icmp .gt 8, 3) := by decide +kernel
theorem dX6_makeByReplacement_135 : decode cX6_makeByReplacement 135 = .ok (.aload 5, 2) := by decide +kernel
theorem dX6_makeByReplacement_137 : decode cX6_makeByReplacement 137 = .ok (.invokevirtual 75, 3) := by decide +kernel
theorem dX6_makeByReplacement_140 : decode cX6_makeByReplacement 140 = .ok (.aload 5, 2) := by decide +kernel
theorem dX6_makeByReplacement_142 : decode cX6_makeByReplacement 142 = .ok (.iload 10, 2) := by decide +kernel
theorem dX6_makeByReplacement_144 : decode cX6_makeByReplacement 144 = .ok (.invokevirtual 78, 3) := by decide +kernel
theorem dX6_makeByReplacement_147 : decode cX6_makeByReplacement 147 = .ok (.iload 6, 2) := by decide +kernel
theorem dX6_makeByReplacement_149 : decode cX6_makeByReplacement 149 = .ok (.aload_n 2, 1) := by decide +kernel
theorem dX6_makeByReplacement_150 : decode cX6_makeByReplacement 150 = .ok (.getfield 57, 3) := by decide +kernel
theorem dX6_makeByReplacement_153 : decode cX6_makeByReplacement 153 = .ok (.if_icmp .ge 46, 3) := by decide +kernel
theorem dX6_makeByReplacement_156 : decode cX6_makeByReplacement 156 = .ok (.aload_n 1, 1) := by decide +kernel
theorem dX6_makeByReplacement_157 : decode cX6_makeByReplacement 157 = .ok (.aload_n 2, 1) := by decide +kernel
theorem dX6_makeByReplacement_158 : decode cX6_makeByReplacement 158 = .ok (.iload 6, 2) := by decide +kernel
theorem dX6_makeByReplacement_160 : decode cX6_makeByReplacement 160 = .ok (.invokevirtual 62, 3) := by decide +kernel
theorem dX6_makeByReplacement_163 : decode cX6_makeByReplacement 163 = .ok (.iload_n 3, 1) := by decide +kernel
theorem dX6_makeByReplacement_164 : decode cX6_makeByReplacement 164 = .ok (.invokevirtual 66, 3) := by decide +kernel
theorem dX6_makeByReplacement_167 : decode cX6_makeByReplacement 167 = .ok (.istore 11, 2) := by decide +kernel
theorem dX6_makeByReplacement_169 : decode cX6_makeByReplacement 169 = .ok (.aload_n 0, 1) := by decide +kernel
theorem dX6_makeByReplacement_170 : decode cX6_makeByReplacement 170 = .ok (.iload 9, 2) := by decide +kernel
theorem dX6_makeByReplacement_172 : decode cX6_makeByReplacement 172 = .ok (.iload 11, 2) := by decide +kernel
theorem dX6_makeByReplacement_174 : decode cX6_makeByReplacement 174 = .ok (.iload 11, 2) := by decide +kernel
theorem dX6_makeByReplacement_176 : decode cX6_makeByReplacement 176 = .ok (.iload 10, 2) := by decide +kernel
theorem dX6_makeByReplacement_178 : decode cX6_makeByReplacement 178 = .ok (.if_icmp .ge 10, 3) := by decide +kernel
theorem dX6_makeByReplacement_181 : decode cX6_makeByReplacement 181 = .ok (.iload 7, 2) := by decide +kernel
theorem dX6_makeByReplacement_183 : decode cX6_makeByReplacement 183 = .ok (.iconst 1, 1) := by decide +kernel
theorem dX6_makeByReplacement_184 : decode cX6_makeByReplacement 184 = .ok (.iadd, 1) := by decide +kernel
theorem dX6_makeByReplacement_185 : decode cX6_makeByReplacement 185 = .ok (.goto 5, 3) := by decide +kernel
theorem dX6_makeByReplacement_188 : decode cX6_makeByReplacement 188 = .ok (.iload 7, 2) := by decide +kernel
theorem dX6_makeByReplacement_190 : decode cX6_makeByReplacement 190 = .ok (.invokevirtual 81, 3) := by decide +kernel
theorem dX6_makeByReplacement_193 : decode cX6_makeByReplacement 193 = .ok (.iinc 6 1, 3) := by decide +kernel
theorem dX6_makeByReplacement_196 : decode cX6_makeByReplacement 196 = .ok (.goto 9, 3) := by decide +kernel
theorem dX6_makeByReplacement_199 : decode cX6_makeByReplacement 199 = .ok (.aload_n 0, 1) := by decide +kernel
theorem dX6_makeByReplacement_200 : decode cX6_makeByReplacement 200 = .ok (.iload 9, 2) := by decide +kernel
theorem dX6_makeByReplacement_202 : decode cX6_makeByReplacement 202 = .ok (.invokevirtual 91, 3) := by decide +kernel
theorem dX6_makeByReplacement_205 : decode cX6_makeByReplacement 205 = .ok (.iinc 8 1, 3) := by decide +kernel
theorem dX6_makeByReplacement_208 : decode cX6_makeByReplacement 208 = .ok (.goto (-148), 3) := by decide +kernel
theorem dX6_makeByReplacement_211 : decode cX6_makeByReplacement 211 = .ok (.return_, 1) := by decide +kernel
theorem dX6_hold_0 : decode cX6_hold 0 = .ok (.iload_n 1, 1) := by decide +kernel
theorem dX6_hold_1 : decode cX6_hold 1 = .ok (.ifCond .lt 23, 3) := by decide +kernel
theorem dX6_hold_4 : decode cX6_hold 4 = .ok (.iload_n 1, 1) := by decide +kernel
theorem dX6_hold_5 : decode cX6_hold 5 = .ok (.bipush 50, 2) := by decide +kernel
theorem dX6_hold_7 : decode cX6_hold 7 = .ok (.if_icmp .ge 17, 3) := by decide +kernel
theorem dX6_hold_10 : decode cX6_hold 10 = .ok (.aload_n 0, 1) := by decide +kernel
theorem dX6_hold_11 : decode cX6_hold 11 = .ok (.getfield 9, 3) := by decide +kernel
theorem dX6_hold_14 : decode cX6_hold 14 = .ok (.iload_n 1, 1) := by decide +kernel
theorem dX6_hold_15 : decode cX6_hold 15 = .ok (.iload_n 2, 1) := by decide +kernel
theorem dX6_hold_16 : decode cX6_hold 16 = .ok (.iastore, 1) := by decide +kernel
theorem dX6_hold_17 : decode cX6_hold 17 = .ok (.aload_n 0, 1) := by decide +kernel
theorem dX6_hold_18 : decode cX6_hold 18 = .ok (.getfield 15, 3) := by decide +kernel
theorem dX6_hold_21 : decode cX6_hold 21 = .ok (.iload_n 1, 1) := by decide +kernel
theorem dX6_hold_22 : decode cX6_hold 22 = .ok (.iload_n 3, 1) := by decide +kernel
theorem dX6_hold_23 : decode cX6_hold 23 = .ok (.iastore, 1) := by decide +kernel
theorem dX6_hold_24 : decode cX6_hold 24 = .ok (.return_, 1) := by decide +kernel
theorem dX6_drop_0 : decode cX6_drop 0 = .ok (.aload_n 0, 1) := by decide +kernel
theorem dX6_drop_1 : decode cX6_drop 1 = .ok (.getfield 18, 3) := by decide +kernel
theorem dX6_drop_4 : decode cX6_drop 4 = .ok (.iconst 1, 1) := by decide +kernel
theorem dX6_drop_5 : decode cX6_drop 5 = .ok (.isub, 1) := by decide +kernel
theorem dX6_drop_6 : decode cX6_drop 6 = .ok (.istore_n 2, 1) := by decide +kernel
theorem dX6_drop_7 : decode cX6_drop 7 = .ok (.iload_n 1, 1) := by decide +kernel
theorem dX6_drop_8 : decode cX6_drop 8 = .ok (.ifCond .lt 43, 3) := by decide +kernel
theorem dX6_drop_11 : decode cX6_drop 11 = .ok (.iload_n 1, 1) := by decide +kernel
theorem dX6_drop_12 : decode cX6_drop 12 = .ok (.iload_n 2, 1) := by decide +kernel
theorem dX6_drop_13 : decode cX6_drop 13 = .ok (.if_icmp .gt 38, 3) := by decide +kernel
theorem dX6_drop_16 : decode cX6_drop 16 = .ok (.iload_n 2, 1) := by decide +kernel
theorem dX6_drop_17 : decode cX6_drop 17 = .ok (.bipush 50, 2) := by decide +kernel
theorem dX6_drop_19 : decode cX6_drop 19 = .ok (.if_icmp .ge 32, 3) := by decide +kernel
theorem dX6_drop_22 : decode cX6_drop 22 = .ok (.aload_n 0, 1) := by decide +kernel
theorem dX6_drop_23 : decode cX6_drop 23 = .ok (.getfield 9, 3) := by decide +kernel
theorem dX6_drop_26 : decode cX6_drop 26 = .ok (.iload_n 1, 1) := by decide +kernel
theorem dX6_drop_27 : decode cX6_drop 27 = .ok (.aload_n 0, 1) := by decide +kernel
theorem dX6_drop_28 : decode cX6_drop 28 = .ok (.getfield 9, 3) := by decide +kernel
theorem dX6_drop_31 : decode cX6_drop 31 = .ok (.iload_n 2, 1) := by decide +kernel
theorem dX6_drop_32 : decode cX6_drop 32 = .ok (.iaload, 1) := by decide +kernel
theorem dX6_drop_33 : decode cX6_drop 33 = .ok (.iastore, 1) := by decide +kernel
theorem dX6_drop_34 : decode cX6_drop 34 = .ok (.aload_n 0, 1) := by decide +kernel
theorem dX6_drop_35 : decode cX6_drop 35 = .ok (.getfield 15, 3) := by decide +kernel
theorem dX6_drop_38 : decode cX6_drop 38 = .ok (.iload_n 1, 1) := by decide +kernel
theorem dX6_drop_39 : decode cX6_drop 39 = .ok (.aload_n 0, 1) := by decide +kernel
theorem dX6_drop_40 : decode cX6_drop 40 = .ok (.getfield 15, 3) := by decide +kernel
theorem dX6_drop_43 : decode cX6_drop 43 = .ok (.iload_n 2, 1) := by decide +kernel
theorem dX6_drop_44 : decode cX6_drop 44 = .ok (.iaload, 1) := by decide +kernel
theorem dX6_drop_45 : decode cX6_drop 45 = .ok (.iastore, 1) := by decide +kernel
theorem dX6_drop_46 : decode cX6_drop 46 = .ok (.aload_n 0, 1) := by decide +kernel
theorem dX6_drop_47 : decode cX6_drop 47 = .ok (.iload_n 2, 1) := by decide +kernel
theorem dX6_drop_48 : decode cX6_drop 48 = .ok (.putfield 18, 3) := by decide +kernel
theorem dX6_drop_51 : decode cX6_drop 51 = .ok (.return_, 1) := by decide +kernel
theorem dX6_leastOf_0 : decode cX6_leastOf 0 = .ok (.iconst (-1), 1) := by decide +kernel
theorem dX6_leastOf_1 : decode cX6_leastOf 1 = .ok (.istore_n 2, 1) := by decide +kernel
theorem dX6_leastOf_2 : decode cX6_leastOf 2 = .ok (.iconst 0, 1) := by decide +kernel
theorem dX6_leastOf_3 : decode cX6_leastOf 3 = .ok (.istore_n 3, 1) := by decide +kernel
theorem dX6_leastOf_4 : decode cX6_leastOf 4 = .ok (.iload_n 3, 1) := by decide +kernel
theorem dX6_leastOf_5 : decode cX6_leastOf 5 = .ok (.aload_n 0, 1) := by decide +kernel
theorem dX6_leastOf_6 : decode cX6_leastOf 6 = .ok (.getfield 18, 3) := by decide +kernel
theorem dX6_leastOf_9 : decode cX6_leastOf 9 = .ok (.if_icmp .ge 47, 3) := by decide +kernel
theorem dX6_leastOf_12 : decode cX6_leastOf 12 = .ok (.iload_n 3, 1) := by decide +kernel
theorem dX6_leastOf_13 : decode cX6_leastOf 13 = .ok (.bipush 50, 2) := by decide +kernel
theorem dX6_leastOf_15 : decode cX6_leastOf 15 = .ok (.if_icmp .ge 41, 3) := by decide +kernel
theorem dX6_leastOf_18 : decode cX6_leastOf 18 = .ok (.aload_n 0, 1) := by decide +kernel
theorem dX6_leastOf_19 : decode cX6_leastOf 19 = .ok (.getfield 15, 3) := by decide +kernel
theorem dX6_leastOf_22 : decode cX6_leastOf 22 = .ok (.iload_n 3, 1) := by decide +kernel
theorem dX6_leastOf_23 : decode cX6_leastOf 23 = .ok (.iaload, 1) := by decide +kernel
theorem dX6_leastOf_24 : decode cX6_leastOf 24 = .ok (.iload_n 1, 1) := by decide +kernel
theorem dX6_leastOf_25 : decode cX6_leastOf 25 = .ok (.if_icmp .ne 25, 3) := by decide +kernel
theorem dX6_leastOf_28 : decode cX6_leastOf 28 = .ok (.iload_n 2, 1) := by decide +kernel
theorem dX6_leastOf_29 : decode cX6_leastOf 29 = .ok (.iconst (-1), 1) := by decide +kernel
theorem dX6_leastOf_30 : decode cX6_leastOf 30 = .ok (.if_icmp .eq 18, 3) := by decide +kernel
theorem dX6_leastOf_33 : decode cX6_leastOf 33 = .ok (.aload_n 0, 1) := by decide +kernel
theorem dX6_leastOf_34 : decode cX6_leastOf 34 = .ok (.getfield 9, 3) := by decide +kernel
theorem dX6_leastOf_37 : decode cX6_leastOf 37 = .ok (.iload_n 3, 1) := by decide +kernel
theorem dX6_leastOf_38 : decode cX6_leastOf 38 = .ok (.iaload, 1) := by decide +kernel
theorem dX6_leastOf_39 : decode cX6_leastOf 39 = .ok (.aload_n 0, 1) := by decide +kernel
theorem dX6_leastOf_40 : decode cX6_leastOf 40 = .ok (.getfield 9, 3) := by decide +kernel
theorem dX6_leastOf_43 : decode cX6_leastOf 43 = .ok (.iload_n 2, 1) := by decide +kernel
theorem dX6_leastOf_44 : decode cX6_leastOf 44 = .ok (.iaload, 1) := by decide +kernel
theorem dX6_leastOf_45 : decode cX6_leastOf 45 = .ok (.if_icmp .ge 5, 3) := by decide +kernel
theorem dX6_leastOf_48 : decode cX6_leastOf 48 = .ok (.iload_n 3, 1) := by decide +kernel
theorem dX6_leastOf_49 : decode cX6_leastOf 49 = .ok (.istore_n 2, 1) := by decide +kernel
theorem dX6_leastOf_50 : decode cX6_leastOf 50 = .ok (.iinc 3 1, 3) := by decide +kernel
theorem dX6_leastOf_53 : decode cX6_leastOf 53 = .ok (.goto (-49), 3) := by decide +kernel
theorem dX6_leastOf_56 : decode cX6_leastOf 56 = .ok (.iload_n 2, 1) := by decide +kernel
theorem dX6_leastOf_57 : decode cX6_leastOf 57 = .ok (.ireturn, 1) := by decide +kernel
set_option maxRecDepth 20000 in
theorem ggX6_makeNatural_X9_recordAt : GoodIn wsX6_makeNatural wsX9_recordAt := goodIn_r _ [5, 6, 7, 28, 29] (by decide +kernel) (by decide +kernel)
set_option maxRecDepth 20000 in
theorem gX6_makeNatural_X9_recordAt : GoodIn wsX6_makeNatural (wsV RX6 62 RX9 yX9_recordAt wsX9_recordAt) := goodIn_app (goodIn_of _ (by decide +kernel)) ggX6_makeNatural_X9_recordAt
set_option maxRecDepth 20000 in
theorem ggX6_makeNatural_X0_rankOf : GoodIn wsX6_makeNatural wsX0_rankOf := goodIn_r _ [12, 13, 30, 31, 32] (by decide +kernel) (by decide +kernel)
set_option maxRecDepth 20000 in
theorem gX6_makeNatural_X0_rankOf : GoodIn wsX6_makeNatural (wsV RX6 66 RX0 yX0_rankOf wsX0_rankOf) := goodIn_app (goodIn_of _ (by decide +kernel)) ggX6_makeNatural_X0_rankOf
set_option maxRecDepth 20000 in
theorem ggX6_makeNatural_X7_openRun : GoodIn wsX6_makeNatural wsX7_openRun := goodIn_r _ [18, 19, 20, 21, 22, 33, 34, 35, 36, 37] (by decide +kernel) (by decide +kernel)
set_option maxRecDepth 20000 in
theorem gX6_makeNatural_X7_openRun : GoodIn wsX6_makeNatural (wsV RX6 75 RX7 yX7_openRun wsX7_openRun) := goodIn_app (goodIn_of _ (by decide +kernel)) ggX6_makeNatural_X7_openRun
set_option maxRecDepth 20000 in
theorem ggX6_makeNatural_X7_add : GoodIn wsX6_makeNatural wsX7_add := goodIn_r _ [26, 19, 21, 27, 22, 33, 34, 35, 36, 37] (by decide +kernel) (by decide +kernel)
set_option maxRecDepth 20000 in
theorem gX6_makeNatural_X7_add : GoodIn wsX6_makeNatural (wsV RX6 78 RX7 yX7_add wsX7_add) := goodIn_app (goodIn_of _ (by decide +kernel)) ggX6_makeNatural_X7_add
theorem dX6_makeNatural_0 : decode cX6_makeNatural 0 = .ok (.iconst 0, 1) := by decide +kernel
theorem dX6_makeNatural_1 : decode cX6_makeNatural 1 = .ok (.istore 5, 2) := by decide +kernel
theorem dX6_makeNatural_3 : decode cX6_makeNatural 3 = .ok (.iconst 0, 1) := by decide +kernel
theorem dX6_makeNatural_4 : decode cX6_makeNatural 4 = .ok (.istore 6, 2) := by decide +kernel
theorem dX6_makeNatural_6 : decode cX6_makeNatural 6 = .ok (.iload 6, 2) := by decide +kernel
theorem dX6_makeNatural_8 : decode cX6_makeNatural 8 = .ok (.aload_n 2, 1) := by decide +kernel
theorem dX6_makeNatural_9 : decode cX6_makeNatural 9 = .ok (.getfield 57, 3) := by decide +kernel
theorem dX6_makeNatural_12 : decode cX6_makeNatural 12 = .ok (.if_icmp .ge 50, 3) := by decide +kernel
theorem dX6_makeNatural_15 : decode cX6_makeNatural 15 = .ok (.aload_n 1, 1) := by decide +kernel
theorem dX6_makeNatural_16 : decode cX6_makeNatural 16 = .ok (.aload_n 2, 1) := by decide +kernel
theorem dX6_makeNatural_17 : decode cX6_makeNatural 17 = .ok (.iload 6, 2) := by decide +kernel
theorem dX6_makeNatural_19 : decode cX6_makeNatural 19 = .ok (.invokevirtual 62, 3) := by decide +kernel
theorem dX6_makeNatural_22 : decode cX6_makeNatural 22 = .ok (.iload_n 3, 1) := by decide +kernel
theorem dX6_makeNatural_23 : decode cX6_makeNatural 23 = .ok (.invokevirtual 66, 3) := by decide +kernel
theorem dX6_makeNatural_26 : decode cX6_makeNatural 26 = .ok (.istore 7, 2) := by decide +kernel
theorem dX6_makeNatural_28 : decode cX6_makeNatural 28 = .ok (.iload 6, 2) := by decide +kernel
theorem dX6_makeNatural_30 : decode cX6_makeNatural 30 = .ok (.ifCond .eq 10, 3) := by decide +kernel
theorem dX6_makeNatural_33 : decode cX6_makeNatural 33 = .ok (.iload 7, 2) := by decide +kernel
theorem dX6_makeNatural_35 : decode cX6_makeNatural 35 = .ok (.iload 5, 2) := by decide +kernel
theorem dX6_makeNatural_37 : decode cX6_makeNatural 37 = .ok (.if_icmp .ge 8, 3) := by decide +kernel
theorem dX6_makeNatural_40 : decode cX6_makeNatural 40 = .ok (.aload 4, 2) := by decide +kernel
theorem dX6_makeNatural_42 : decode cX6_makeNatural 42 = .ok (.invokevirtual 75, 3) := by decide +kernel
theorem dX6_makeNatural_45 : decode cX6_makeNatural 45 = .ok (.aload 4, 2) := by decide +kernel
theorem dX6_makeNatural_47 : decode cX6_makeNatural 47 = .ok (.iload 7, 2) := by decide +kernel
theorem dX6_makeNatural_49 : decode cX6_makeNatural 49 = .ok (.invokevirtual 78, 3) := by decide +kernel
theorem dX6_makeNatural_52 : decode cX6_makeNatural 52 = .ok (.iload 7, 2) := by decide +kernel
theorem dX6_makeNatural_54 : decode cX6_makeNatural 54 = .ok (.istore 5, 2) := by decide +kernel
theorem dX6_makeNatural_56 : decode cX6_makeNatural 56 = .ok (.iinc 6 1, 3) := by decide +kernel
theorem dX6_makeNatural_59 : decode cX6_makeNatural 59 = .ok (.goto (-53), 3) := by decide +kernel
theorem dX6_makeNatural_62 : decode cX6_makeNatural 62 = .ok (.return_, 1) := by decide +kernel
theorem dX7_init_0 : decode cX7_init 0 = .ok (.aload_n 0, 1) := by decide +kernel
theorem dX7_init_1 : decode cX7_init 1 = .ok (.invokespecial 3, 3) := by decide +kernel
theorem dX7_init_4 : decode cX7_init 4 = .ok (.aload_n 0, 1) := by decide +kernel
theorem dX7_init_5 : decode cX7_init 5 = .ok (.bipush 100, 2) := by decide +kernel
theorem dX7_init_7 : decode cX7_init 7 = .ok (.newarray .int, 2) := by decide +kernel
theorem dX7_init_9 : decode cX7_init 9 = .ok (.putfield 9, 3) := by decide +kernel
theorem dX7_init_12 : decode cX7_init 12 = .ok (.aload_n 0, 1) := by decide +kernel
theorem dX7_init_13 : decode cX7_init 13 = .ok (.sipush 200, 3) := by decide +kernel
theorem dX7_init_16 : decode cX7_init 16 = .ok (.newarray .int, 2) := by decide +kernel
theorem dX7_init_18 : decode cX7_init 18 = .ok (.putfield 15, 3) := by decide +kernel
theorem dX7_init_21 : decode cX7_init 21 = .ok (.aload_n 0, 1) := by decide +kernel
theorem dX7_init_22 : decode cX7_init 22 = .ok (.sipush 200, 3) := by decide +kernel
theorem dX7_init_25 : decode cX7_init 25 = .ok (.newarray .int, 2) := by decide +kernel
theorem dX7_init_27 : decode cX7_init 27 = .ok (.putfield 18, 3) := by decide +kernel
theorem dX7_init_30 : decode cX7_init 30 = .ok (.aload_n 0, 1) := by decide +kernel
theorem dX7_init_31 : decode cX7_init 31 = .ok (.iconst 0, 1) := by decide +kernel
theorem dX7_init_32 : decode cX7_init 32 = .ok (.putfield 21, 3) := by decide +kernel
theorem dX7_init_35 : decode cX7_init 35 = .ok (.aload_n 0, 1) := by decide +kernel
theorem dX7_init_36 : decode cX7_init 36 = .ok (.iconst 0, 1) := by decide +kernel
theorem dX7_init_37 : decode cX7_init 37 = .ok (.putfield 25, 3) := by decide +kernel
theorem dX7_init_40 : decode cX7_init 40 = .ok (.return_, 1) := by decide +kernel
theorem dX7_empty_0 : decode cX7_empty 0 = .ok (.aload_n 0, 1) := by decide +kernel
