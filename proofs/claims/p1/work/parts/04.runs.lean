theorem dX7_empty_0 : decode cX7_empty 0 = .ok (.aload_n 0, 1) := by decide +kernel
theorem dX7_empty_1 : decode cX7_empty 1 = .ok (.iconst 0, 1) := by decide +kernel
theorem dX7_empty_2 : decode cX7_empty 2 = .ok (.putfield 21, 3) := by decide +kernel
theorem dX7_empty_5 : decode cX7_empty 5 = .ok (.aload_n 0, 1) := by decide +kernel
theorem dX7_empty_6 : decode cX7_empty 6 = .ok (.iconst 0, 1) := by decide +kernel
theorem dX7_empty_7 : decode cX7_empty 7 = .ok (.putfield 25, 3) := by decide +kernel
theorem dX7_empty_10 : decode cX7_empty 10 = .ok (.return_, 1) := by decide +kernel
theorem dX7_lengthOf_0 : decode cX7_lengthOf 0 = .ok (.iload_n 1, 1) := by decide +kernel
theorem dX7_lengthOf_1 : decode cX7_lengthOf 1 = .ok (.ifCond .lt 27, 3) := by decide +kernel
theorem dX7_lengthOf_4 : decode cX7_lengthOf 4 = .ok (.iload_n 1, 1) := by decide +kernel
theorem dX7_lengthOf_5 : decode cX7_lengthOf 5 = .ok (.aload_n 0, 1) := by decide +kernel
theorem dX7_lengthOf_6 : decode cX7_lengthOf 6 = .ok (.getfield 21, 3) := by decide +kernel
theorem dX7_lengthOf_9 : decode cX7_lengthOf 9 = .ok (.if_icmp .ge 19, 3) := by decide +kernel
theorem dX7_lengthOf_28 : decode cX7_lengthOf 28 = .ok (.iconst 0, 1) := by decide +kernel
theorem dX7_lengthOf_29 : decode cX7_lengthOf 29 = .ok (.ireturn, 1) := by decide +kernel
theorem dX6_makeFull_0 : decode cX6_makeFull 0 = .ok (.aload_n 0, 1) := by decide +kernel
theorem dX6_makeFull_1 : decode cX6_makeFull 1 = .ok (.iconst 0, 1) := by decide +kernel
theorem dX6_makeFull_2 : decode cX6_makeFull 2 = .ok (.putfield 18, 3) := by decide +kernel
theorem dX6_makeFull_5 : decode cX6_makeFull 5 = .ok (.iconst 0, 1) := by decide +kernel
theorem dX6_makeFull_6 : decode cX6_makeFull 6 = .ok (.istore 6, 2) := by decide +kernel
theorem dX6_makeFull_8 : decode cX6_makeFull 8 = .ok (.iload 6, 2) := by decide +kernel
theorem dX6_makeFull_10 : decode cX6_makeFull 10 = .ok (.aload_n 2, 1) := by decide +kernel
theorem dX6_makeFull_11 : decode cX6_makeFull 11 = .ok (.getfield 57, 3) := by decide +kernel
theorem dX6_makeFull_14 : decode cX6_makeFull 14 = .ok (.if_icmp .ge 91, 3) := by decide +kernel
theorem dX6_makeFull_105 : decode cX6_makeFull 105 = .ok (.return_, 1) := by decide +kernel
theorem dX6_makeByReplacement_0 : decode cX6_makeByReplacement 0 = .ok (.aload_n 0, 1) := by decide +kernel
theorem dX6_makeByReplacement_1 : decode cX6_makeByReplacement 1 = .ok (.iconst 0, 1) := by decide +kernel
theorem dX6_makeByReplacement_2 : decode cX6_makeByReplacement 2 = .ok (.putfield 18, 3) := by decide +kernel
theorem dX6_makeByReplacement_5 : decode cX6_makeByReplacement 5 = .ok (.iconst 0, 1) := by decide +kernel
theorem dX6_makeByReplacement_6 : decode cX6_makeByReplacement 6 = .ok (.istore 6, 2) := by decide +kernel
theorem dX6_makeByReplacement_8 : decode cX6_makeByReplacement 8 = .ok (.iload 6, 2) := by decide +kernel
theorem dX6_makeByReplacement_10 : decode cX6_makeByReplacement 10 = .ok (.aload_n 2, 1) := by decide +kernel
theorem dX6_makeByReplacement_11 : decode cX6_makeByReplacement 11 = .ok (.getfield 57, 3) := by decide +kernel
theorem dX6_makeByReplacement_14 : decode cX6_makeByReplacement 14 = .ok (.if_icmp .ge 34, 3) := by decide +kernel
theorem dX6_makeByReplacement_48 : decode cX6_makeByReplacement 48 = .ok (.aload_n 0, 1) := by decide +kernel
theorem dX6_makeByReplacement_49 : decode cX6_makeByReplacement 49 = .ok (.iload 6, 2) := by decide +kernel
theorem dX6_makeByReplacement_51 : decode cX6_makeByReplacement 51 = .ok (.putfield 18, 3) := by decide +kernel
theorem dX6_makeByReplacement_54 : decode cX6_makeByReplacement 54 = .ok (.iconst 0, 1) := by decide +kernel
theorem dX6_makeByReplacement_55 : decode cX6_makeByReplacement 55 = .ok (.istore 7, 2) := by decide +kernel
theorem dX6_makeByReplacement_57 : decode cX6_makeByReplacement 57 = .ok (.iconst 0, 1) := by decide +kernel
theorem dX6_makeByReplacement_58 : decode cX6_makeByReplacement 58 = .ok (.istore 8, 2) := by decide +kernel
theorem dX6_makeByReplacement_60 : decode cX6_makeByReplacement 60 = .ok (.iload 8, 2) := by decide +kernel
theorem dX6_makeByReplacement_62 : decode cX6_makeByReplacement 62 = .ok (.aload_n 2, 1) := by decide +kernel
theorem dX6_makeByReplacement_63 : decode cX6_makeByReplacement 63 = .ok (.getfield 57, 3) := by decide +kernel
theorem dX6_makeByReplacement_66 : decode cX6_makeByReplacement 66 = .ok (.if_icmp .ge 145, 3) := by decide +kernel
theorem dX6_makeByReplacement_211 : decode cX6_makeByReplacement 211 = .ok (.return_, 1) := by decide +kernel
theorem dX6_makeNatural_0 : decode cX6_makeNatural 0 = .ok (.iconst 0, 1) := by decide +kernel
theorem dX6_makeNatural_1 : decode cX6_makeNatural 1 = .ok (.istore 5, 2) := by decide +kernel
theorem dX6_makeNatural_3 : decode cX6_makeNatural 3 = .ok (.iconst 0, 1) := by decide +kernel
theorem dX6_makeNatural_4 : decode cX6_makeNatural 4 = .ok (.istore 6, 2) := by decide +kernel
theorem dX6_makeNatural_6 : decode cX6_makeNatural 6 = .ok (.iload 6, 2) := by decide +kernel
theorem dX6_makeNatural_8 : decode cX6_makeNatural 8 = .ok (.aload_n 2, 1) := by decide +kernel
theorem dX6_makeNatural_9 : decode cX6_makeNatural 9 = .ok (.getfield 57, 3) := by decide +kernel
theorem dX6_makeNatural_12 : decode cX6_makeNatural 12 = .ok (.if_icmp .ge 50, 3) := by decide +kernel
theorem dX6_makeNatural_62 : decode cX6_makeNatural 62 = .ok (.return_, 1) := by decide +kernel
theorem dX6_makeRuns_0 : decode cX6_makeRuns 0 = .ok (.aload 4, 2) := by decide +kernel
set_option maxRecDepth 20000 in
theorem ggX6_makeRuns_X7_empty : GoodIn wsX6_makeRuns wsX7_empty := goodIn_r _ [12, 13, 14, 76, 77, 78, 79, 80] (by decide +kernel) (by decide +kernel)
set_option maxRecDepth 20000 in
theorem gX6_makeRuns_X7_empty : GoodIn wsX6_makeRuns (wsV RX6 22 RX7 yX7_empty wsX7_empty) := goodIn_app (goodIn_of _ (by decide +kernel)) ggX6_makeRuns_X7_empty
theorem dX6_makeRuns_2 : decode cX6_makeRuns 2 = .ok (.invokevirtual 22, 3) := by decide +kernel
theorem dX6_makeRuns_5 : decode cX6_makeRuns 5 = .ok (.iconst 1, 1) := by decide +kernel
theorem dX6_makeRuns_6 : decode cX6_makeRuns 6 = .ok (.aload_n 3, 1) := by decide +kernel
theorem dX6_makeRuns_7 : decode cX6_makeRuns 7 = .ok (.getfield 27, 3) := by decide +kernel
theorem dX6_makeRuns_10 : decode cX6_makeRuns 10 = .ok (.bipush 50, 2) := by decide +kernel
theorem dX6_makeRuns_12 : decode cX6_makeRuns 12 = .ok (.invokestatic 31, 3) := by decide +kernel
theorem dX6_makeRuns_15 : decode cX6_makeRuns 15 = .ok (.invokestatic 37, 3) := by decide +kernel
theorem dX6_makeRuns_18 : decode cX6_makeRuns 18 = .ok (.istore 5, 2) := by decide +kernel
theorem dX6_makeRuns_20 : decode cX6_makeRuns 20 = .ok (.aload_n 3, 1) := by decide +kernel
theorem dX6_makeRuns_21 : decode cX6_makeRuns 21 = .ok (.getfield 40, 3) := by decide +kernel
theorem dX6_makeRuns_24 : decode cX6_makeRuns 24 = .ok (.ifCond .ne 20, 3) := by decide +kernel
theorem dX6_makeRuns_27 : decode cX6_makeRuns 27 = .ok (.aload_n 0, 1) := by decide +kernel
theorem dX6_makeRuns_28 : decode cX6_makeRuns 28 = .ok (.aload_n 1, 1) := by decide +kernel
theorem dX6_makeRuns_29 : decode cX6_makeRuns 29 = .ok (.aload_n 2, 1) := by decide +kernel
theorem dX6_makeRuns_30 : decode cX6_makeRuns 30 = .ok (.aload_n 3, 1) := by decide +kernel
theorem dX6_makeRuns_31 : decode cX6_makeRuns 31 = .ok (.getfield 43, 3) := by decide +kernel
theorem dX6_makeRuns_34 : decode cX6_makeRuns 34 = .ok (.iload 5, 2) := by decide +kernel
theorem dX6_makeRuns_36 : decode cX6_makeRuns 36 = .ok (.aload 4, 2) := by decide +kernel
set_option maxRecDepth 20000 in
theorem ggX6_makeRuns_X6_makeFull : GoodIn wsX6_makeRuns wsX6_makeFull := goodIn_r _ [19, 20, 21, 22, 23, 24, 25, 26, 27, 28, 29, 30, 31, 32, 33, 34, 35, 36, 37, 18, 38, 39, 40, 41, 11, 42, 13, 43, 14, 44, 45, 46, 47, 48, 49, 81, 82, 83, 84, 85, 86, 87, 88, 76, 77, 78, 79, 80] (by decide +kernel) (by decide +kernel)
set_option maxRecDepth 20000 in
theorem gX6_makeRuns_X6_makeFull : GoodIn wsX6_makeRuns (wsV RX6 46 RX6 yX6_makeFull wsX6_makeFull) := goodIn_app (goodIn_of _ (by decide +kernel)) ggX6_makeRuns_X6_makeFull
theorem dX6_makeRuns_38 : decode cX6_makeRuns 38 = .ok (.invokevirtual 46, 3) := by decide +kernel
theorem dX6_makeRuns_41 : decode cX6_makeRuns 41 = .ok (.goto 40, 3) := by decide +kernel
theorem dX6_makeRuns_81 : decode cX6_makeRuns 81 = .ok (.return_, 1) := by decide +kernel
theorem dX6_makeRuns_44 : decode cX6_makeRuns 44 = .ok (.aload_n 3, 1) := by decide +kernel
theorem dX6_makeRuns_45 : decode cX6_makeRuns 45 = .ok (.getfield 40, 3) := by decide +kernel
theorem dX6_makeRuns_48 : decode cX6_makeRuns 48 = .ok (.iconst 1, 1) := by decide +kernel
theorem dX6_makeRuns_49 : decode cX6_makeRuns 49 = .ok (.if_icmp .ne 20, 3) := by decide +kernel
theorem dX6_makeRuns_52 : decode cX6_makeRuns 52 = .ok (.aload_n 0, 1) := by decide +kernel
theorem dX6_makeRuns_53 : decode cX6_makeRuns 53 = .ok (.aload_n 1, 1) := by decide +kernel
theorem dX6_makeRuns_54 : decode cX6_makeRuns 54 = .ok (.aload_n 2, 1) := by decide +kernel
theorem dX6_makeRuns_55 : decode cX6_makeRuns 55 = .ok (.aload_n 3, 1) := by decide +kernel
theorem dX6_makeRuns_56 : decode cX6_makeRuns 56 = .ok (.getfield 43, 3) := by decide +kernel
theorem dX6_makeRuns_59 : decode cX6_makeRuns 59 = .ok (.iload 5, 2) := by decide +kernel
theorem dX6_makeRuns_61 : decode cX6_makeRuns 61 = .ok (.aload 4, 2) := by decide +kernel
set_option maxRecDepth 20000 in
theorem ggX6_makeRuns_X6_makeByReplacement : GoodIn wsX6_makeRuns wsX6_makeByReplacement := goodIn_r _ [53, 20, 21, 22, 23, 24, 25, 26, 27, 28, 29, 30, 31, 32, 33, 34, 54, 55, 56, 18, 57, 58, 59, 60, 61, 62, 39, 40, 41, 11, 42, 13, 43, 14, 44, 45, 46, 47, 48, 49, 63, 64, 65, 66, 81, 82, 83, 84, 85, 76, 77, 78, 79, 80, 86, 87, 88] (by decide +kernel) (by decide +kernel)
set_option maxRecDepth 20000 in
theorem gX6_makeRuns_X6_makeByReplacement : GoodIn wsX6_makeRuns (wsV RX6 50 RX6 yX6_makeByReplacement wsX6_makeByReplacement) := goodIn_app (goodIn_of _ (by decide +kernel)) ggX6_makeRuns_X6_makeByReplacement
theorem dX6_makeRuns_63 : decode cX6_makeRuns 63 = .ok (.invokevirtual 50, 3) := by decide +kernel
theorem dX6_makeRuns_66 : decode cX6_makeRuns 66 = .ok (.goto 15, 3) := by decide +kernel
theorem dX6_makeRuns_69 : decode cX6_makeRuns 69 = .ok (.aload_n 0, 1) := by decide +kernel
theorem dX6_makeRuns_70 : decode cX6_makeRuns 70 = .ok (.aload_n 1, 1) := by decide +kernel
theorem dX6_makeRuns_71 : decode cX6_makeRuns 71 = .ok (.aload_n 2, 1) := by decide +kernel
theorem dX6_makeRuns_72 : decode cX6_makeRuns 72 = .ok (.aload_n 3, 1) := by decide +kernel
theorem dX6_makeRuns_73 : decode cX6_makeRuns 73 = .ok (.getfield 43, 3) := by decide +kernel
theorem dX6_makeRuns_76 : decode cX6_makeRuns 76 = .ok (.aload 4, 2) := by decide +kernel
set_option maxRecDepth 20000 in
theorem ggX6_makeRuns_X6_makeNatural : GoodIn wsX6_makeRuns wsX6_makeNatural := goodIn_r _ [70, 22, 23, 24, 25, 26, 27, 28, 29, 30, 31, 32, 33, 34, 39, 40, 41, 11, 42, 13, 43, 14, 44, 45, 46, 47, 48, 49, 84, 85, 86, 87, 88, 76, 77, 78, 79, 80] (by decide +kernel) (by decide +kernel)
set_option maxRecDepth 20000 in
theorem gX6_makeRuns_X6_makeNatural : GoodIn wsX6_makeRuns (wsV RX6 53 RX6 yX6_makeNatural wsX6_makeNatural) := goodIn_app (goodIn_of _ (by decide +kernel)) ggX6_makeRuns_X6_makeNatural
theorem dX6_makeRuns_78 : decode cX6_makeRuns 78 = .ok (.invokevirtual 53, 3) := by decide +kernel
theorem dX3_arrange_0 : decode cX3_arrange 0 = .ok (.aload_n 0, 1) := by decide +kernel
theorem dX3_arrange_1 : decode cX3_arrange 1 = .ok (.aload_n 1, 1) := by decide +kernel
theorem dX3_arrange_2 : decode cX3_arrange 2 = .ok (.getfield 31, 3) := by decide +kernel
theorem dX3_arrange_5 : decode cX3_arrange 5 = .ok (.putfield 18, 3) := by decide +kernel
theorem dX3_arrange_8 : decode cX3_arrange 8 = .ok (.aload_n 0, 1) := by decide +kernel
theorem dX3_arrange_9 : decode cX3_arrange 9 = .ok (.iconst 2, 1) := by decide +kernel
theorem dX3_arrange_10 : decode cX3_arrange 10 = .ok (.aload_n 1, 1) := by decide +kernel
theorem dX3_arrange_11 : decode cX3_arrange 11 = .ok (.getfield 36, 3) := by decide +kernel
theorem dX3_arrange_14 : decode cX3_arrange 14 = .ok (.bipush 6, 2) := by decide +kernel
theorem dX3_arrange_16 : decode cX3_arrange 16 = .ok (.invokestatic 37, 3) := by decide +kernel
theorem dX3_arrange_19 : decode cX3_arrange 19 = .ok (.invokestatic 43, 3) := by decide +kernel
theorem dX3_arrange_22 : decode cX3_arrange 22 = .ok (.putfield 22, 3) := by decide +kernel
theorem dX3_arrange_25 : decode cX3_arrange 25 = .ok (.aload_n 0, 1) := by decide +kernel
theorem dX3_arrange_26 : decode cX3_arrange 26 = .ok (.iconst 0, 1) := by decide +kernel
theorem dX3_arrange_27 : decode cX3_arrange 27 = .ok (.putfield 28, 3) := by decide +kernel
theorem dX3_arrange_30 : decode cX3_arrange 30 = .ok (.aload_n 0, 1) := by decide +kernel
theorem dX3_arrange_31 : decode cX3_arrange 31 = .ok (.iconst 0, 1) := by decide +kernel
theorem dX3_arrange_32 : decode cX3_arrange 32 = .ok (.putfield 25, 3) := by decide +kernel
theorem dX3_arrange_35 : decode cX3_arrange 35 = .ok (.aload_n 0, 1) := by decide +kernel
theorem dX3_arrange_36 : decode cX3_arrange 36 = .ok (.getfield 18, 3) := by decide +kernel
theorem dX3_arrange_39 : decode cX3_arrange 39 = .ok (.iconst 2, 1) := by decide +kernel
theorem dX3_arrange_40 : decode cX3_arrange 40 = .ok (.if_icmp .ne 7, 3) := by decide +kernel
theorem dX3_arrange_47 : decode cX3_arrange 47 = .ok (.iload_n 2, 1) := by decide +kernel
theorem dX3_arrange_48 : decode cX3_arrange 48 = .ok (.ireturn, 1) := by decide +kernel
theorem dX3_arrange_43 : decode cX3_arrange 43 = .ok (.iload_n 2, 1) := by decide +kernel
theorem dX3_arrange_44 : decode cX3_arrange 44 = .ok (.ifCond .ne 5, 3) := by decide +kernel
theorem dX2_isOver_0 : decode cX2_isOver 0 = .ok (.aload_n 0, 1) := by decide +kernel
theorem dX2_isOver_1 : decode cX2_isOver 1 = .ok (.getfield 39, 3) := by decide +kernel
theorem dX2_isOver_4 : decode cX2_isOver 4 = .ok (.getfield 74, 3) := by decide +kernel
theorem dX2_isOver_7 : decode cX2_isOver 7 = .ok (.iconst 1, 1) := by decide +kernel
theorem dX2_isOver_8 : decode cX2_isOver 8 = .ok (.if_icmp .gt 7, 3) := by decide +kernel
theorem dX2_isOver_11 : decode cX2_isOver 11 = .ok (.iconst 1, 1) := by decide +kernel
theorem dX2_isOver_12 : decode cX2_isOver 12 = .ok (.goto 4, 3) := by decide +kernel
theorem dX2_isOver_16 : decode cX2_isOver 16 = .ok (.ireturn, 1) := by decide +kernel
theorem dX2_writeTo_0 : decode cX2_writeTo 0 = .ok (.aload_n 1, 1) := by decide +kernel
set_option maxRecDepth 20000 in
theorem ggX2_writeTo_X9_empty : GoodIn wsX2_writeTo wsX9_empty := goodIn_r _ [6, 7, 45, 46] (by decide +kernel) (by decide +kernel)
set_option maxRecDepth 20000 in
theorem gX2_writeTo_X9_empty : GoodIn wsX2_writeTo (wsV RX2 156 RX9 yX9_empty wsX9_empty) := goodIn_app (goodIn_of _ (by decide +kernel)) ggX2_writeTo_X9_empty
theorem dX2_writeTo_1 : decode cX2_writeTo 1 = .ok (.invokevirtual 156, 3) := by decide +kernel
theorem dX2_writeTo_4 : decode cX2_writeTo 4 = .ok (.aload_n 0, 1) := by decide +kernel
theorem dX2_writeTo_5 : decode cX2_writeTo 5 = .ok (.getfield 39, 3) := by decide +kernel
theorem dX2_writeTo_8 : decode cX2_writeTo 8 = .ok (.iconst 0, 1) := by decide +kernel
set_option maxRecDepth 20000 in
theorem ggX2_writeTo_X7_lengthOf : GoodIn wsX2_writeTo wsX7_lengthOf := goodIn_r _ [12, 13, 14, 47, 48, 49, 50, 51] (by decide +kernel) (by decide +kernel)
set_option maxRecDepth 20000 in
theorem gX2_writeTo_X7_lengthOf : GoodIn wsX2_writeTo (wsV RX2 110 RX7 yX7_lengthOf wsX7_lengthOf) := goodIn_app (goodIn_of _ (by decide +kernel)) ggX2_writeTo_X7_lengthOf
theorem dX2_writeTo_9 : decode cX2_writeTo 9 = .ok (.invokevirtual 110, 3) := by decide +kernel
theorem dX2_writeTo_12 : decode cX2_writeTo 12 = .ok (.istore_n 2, 1) := by decide +kernel
theorem dX2_writeTo_13 : decode cX2_writeTo 13 = .ok (.iconst 0, 1) := by decide +kernel
theorem dX2_writeTo_14 : decode cX2_writeTo 14 = .ok (.istore_n 3, 1) := by decide +kernel
theorem dX2_writeTo_15 : decode cX2_writeTo 15 = .ok (.iload_n 3, 1) := by decide +kernel
theorem dX2_writeTo_16 : decode cX2_writeTo 16 = .ok (.iload_n 2, 1) := by decide +kernel
theorem dX2_writeTo_17 : decode cX2_writeTo 17 = .ok (.if_icmp .ge 25, 3) := by decide +kernel
theorem dX2_writeTo_42 : decode cX2_writeTo 42 = .ok (.return_, 1) := by decide +kernel
theorem dX2_start_0 : decode cX2_start 0 = .ok (.aload_n 0, 1) := by decide +kernel
theorem dX2_start_1 : decode cX2_start 1 = .ok (.getfield 12, 3) := by decide +kernel
theorem dX2_start_4 : decode cX2_start 4 = .ok (.aload_n 1, 1) := by decide +kernel
theorem dX2_start_5 : decode cX2_start 5 = .ok (.aload_n 2, 1) := by decide +kernel
theorem dX2_start_6 : decode cX2_start 6 = .ok (.aload 4, 2) := by decide +kernel
theorem dX2_start_8 : decode cX2_start 8 = .ok (.aload_n 0, 1) := by decide +kernel
theorem dX2_start_9 : decode cX2_start 9 = .ok (.getfield 39, 3) := by decide +kernel
set_option maxRecDepth 20000 in
theorem ggX2_start_X6_makeRuns : GoodIn wsX2_start wsX6_makeRuns := goodIn_r _ [16, 17, 18, 19, 20, 21, 22, 23, 24, 25, 26, 27, 28, 29, 30, 31, 32, 33, 15, 34, 35, 36, 37, 38, 39, 40, 41, 42, 43, 44, 45, 46, 47, 48, 49, 50, 51, 52, 53, 54, 55, 56, 57, 58, 59, 60, 61, 62, 63, 64, 65, 66, 67, 68, 69, 70, 71, 72, 73, 74, 75, 76, 77, 78, 79, 80, 81, 82, 83, 84, 85, 126, 127, 128, 129, 130, 119, 120, 121, 122, 123, 131, 132, 133, 124, 125, 134, 135, 136] (by decide +kernel) (by decide +kernel)
set_option maxRecDepth 20000 in
theorem gX2_start_X6_makeRuns : GoodIn wsX2_start (wsV RX2 70 RX6 yX6_makeRuns wsX6_makeRuns) := goodIn_app (goodIn_of _ (by decide +kernel)) ggX2_start_X6_makeRuns
theorem dX2_start_12 : decode cX2_start 12 = .ok (.invokevirtual 70, 3) := by decide +kernel
theorem dX2_start_15 : decode cX2_start 15 = .ok (.aload_n 0, 1) := by decide +kernel
theorem dX2_start_16 : decode cX2_start 16 = .ok (.getfield 39, 3) := by decide +kernel
theorem dX2_start_19 : decode cX2_start 19 = .ok (.getfield 74, 3) := by decide +kernel
theorem dX2_start_22 : decode cX2_start 22 = .ok (.istore 5, 2) := by decide +kernel
theorem dX2_start_24 : decode cX2_start 24 = .ok (.aload_n 0, 1) := by decide +kernel
theorem dX2_start_25 : decode cX2_start 25 = .ok (.getfield 21, 3) := by decide +kernel
theorem dX2_start_28 : decode cX2_start 28 = .ok (.aload 4, 2) := by decide +kernel
theorem dX2_start_30 : decode cX2_start 30 = .ok (.iload 5, 2) := by decide +kernel
set_option maxRecDepth 20000 in
theorem ggX2_start_X3_arrange : GoodIn wsX2_start wsX3_arrange := goodIn_r _ [90, 91, 92, 18, 19, 20, 93, 22, 23, 94, 95, 96, 97, 98, 99, 100, 89, 101, 126, 127, 128, 129, 130, 137, 138, 139, 140, 141, 142] (by decide +kernel) (by decide +kernel)
set_option maxRecDepth 20000 in
theorem gX2_start_X3_arrange : GoodIn wsX2_start (wsV RX2 77 RX3 yX3_arrange wsX3_arrange) := goodIn_app (goodIn_of _ (by decide +kernel)) ggX2_start_X3_arrange
theorem dX2_start_32 : decode cX2_start 32 = .ok (.invokevirtual 77, 3) := by decide +kernel
theorem dX2_start_35 : decode cX2_start 35 = .ok (.istore 6, 2) := by decide +kernel
theorem dX2_start_37 : decode cX2_start 37 = .ok (.iload 5, 2) := by decide +kernel
theorem dX2_start_39 : decode cX2_start 39 = .ok (.istore 7, 2) := by decide +kernel
theorem dX2_start_41 : decode cX2_start 41 = .ok (.iload 7, 2) := by decide +kernel
theorem dX2_start_43 : decode cX2_start 43 = .ok (.iload 6, 2) := by decide +kernel
theorem dX2_start_45 : decode cX2_start 45 = .ok (.if_icmp .ge 16, 3) := by decide +kernel
theorem dX2_start_61 : decode cX2_start 61 = .ok (.aload_n 0, 1) := by decide +kernel
theorem dX2_start_62 : decode cX2_start 62 = .ok (.getfield 43, 3) := by decide +kernel
set_option maxRecDepth 20000 in
theorem ggX2_start_X7_empty : GoodIn wsX2_start wsX7_empty := goodIn_r _ [28, 29, 30, 119, 120, 121, 122, 123] (by decide +kernel) (by decide +kernel)
set_option maxRecDepth 20000 in
theorem gX2_start_X7_empty : GoodIn wsX2_start (wsV RX2 84 RX7 yX7_empty wsX7_empty) := goodIn_app (goodIn_of _ (by decide +kernel)) ggX2_start_X7_empty
theorem dX2_start_65 : decode cX2_start 65 = .ok (.invokevirtual 84, 3) := by decide +kernel
theorem dX2_start_68 : decode cX2_start 68 = .ok (.aload_n 0, 1) := by decide +kernel
theorem dX2_start_69 : decode cX2_start 69 = .ok (.iload_n 3, 1) := by decide +kernel
theorem dX2_start_70 : decode cX2_start 70 = .ok (.putfield 49, 3) := by decide +kernel
theorem dX2_start_73 : decode cX2_start 73 = .ok (.aload_n 0, 1) := by decide +kernel
theorem dX2_start_74 : decode cX2_start 74 = .ok (.iconst 0, 1) := by decide +kernel
theorem dX2_start_75 : decode cX2_start 75 = .ok (.putfield 52, 3) := by decide +kernel
theorem dX2_start_78 : decode cX2_start 78 = .ok (.aload_n 0, 1) := by decide +kernel
theorem dX2_start_79 : decode cX2_start 79 = .ok (.iconst 0, 1) := by decide +kernel
theorem dX2_start_80 : decode cX2_start 80 = .ok (.putfield 55, 3) := by decide +kernel
theorem dX2_start_83 : decode cX2_start 83 = .ok (.aload_n 0, 1) := by decide +kernel
theorem dX2_start_84 : decode cX2_start 84 = .ok (.aload_n 2, 1) := by decide +kernel
theorem dX2_start_85 : decode cX2_start 85 = .ok (.getfield 87, 3) := by decide +kernel
theorem dX2_start_88 : decode cX2_start 88 = .ok (.putfield 58, 3) := by decide +kernel
theorem dX2_start_91 : decode cX2_start 91 = .ok (.aload_n 0, 1) := by decide +kernel
theorem dX2_start_92 : decode cX2_start 92 = .ok (.iconst 0, 1) := by decide +kernel
theorem dX2_start_93 : decode cX2_start 93 = .ok (.putfield 61, 3) := by decide +kernel
theorem dX2_start_96 : decode cX2_start 96 = .ok (.aload_n 0, 1) := by decide +kernel
theorem dX2_start_97 : decode cX2_start 97 = .ok (.iconst 0, 1) := by decide +kernel
theorem dX2_start_98 : decode cX2_start 98 = .ok (.putfield 64, 3) := by decide +kernel
theorem dX2_start_101 : decode cX2_start 101 = .ok (.aload_n 0, 1) := by decide +kernel
theorem dX2_start_102 : decode cX2_start 102 = .ok (.iconst 0, 1) := by decide +kernel
theorem dX2_start_103 : decode cX2_start 103 = .ok (.putfield 67, 3) := by decide +kernel
theorem dX2_start_106 : decode cX2_start 106 = .ok (.iload 5, 2) := by decide +kernel
theorem dX2_start_108 : decode cX2_start 108 = .ok (.ireturn, 1) := by decide +kernel
theorem dX2_doWhole_0 : decode cX2_doWhole 0 = .ok (.aload_n 0, 1) := by decide +kernel
theorem dX2_doWhole_1 : decode cX2_doWhole 1 = .ok (.aload_n 1, 1) := by decide +kernel
theorem dX2_doWhole_2 : decode cX2_doWhole 2 = .ok (.aload_n 2, 1) := by decide +kernel
theorem dX2_doWhole_3 : decode cX2_doWhole 3 = .ok (.iconst 0, 1) := by decide +kernel
theorem dX2_doWhole_4 : decode cX2_doWhole 4 = .ok (.aload 4, 2) := by decide +kernel
set_option maxRecDepth 20000 in
theorem ggX2_doWhole_X2_start : GoodIn wsX2_doWhole wsX2_start := goodIn_r _ [5, 6, 7, 8, 9, 10, 11, 12, 13, 14, 15, 16, 17, 18, 19, 20, 21, 22, 23, 24, 25, 26, 27, 28, 29, 30, 31, 32, 33, 34, 35, 36, 37, 38, 39, 40, 41, 42, 43, 44, 45, 46, 47, 48, 49, 50, 51, 52, 53, 54, 55, 56, 57, 58, 59, 60, 61, 62, 63, 64, 65, 66, 67, 68, 69, 70, 71, 72, 73, 74, 75, 76, 77, 78, 79, 80, 81, 82, 83, 84, 85, 86, 87, 88, 89, 90, 91, 92, 93, 94, 95, 96, 97, 98, 99, 100, 101, 102, 103, 104, 105, 106, 107, 108, 198, 199, 200, 201, 202, 203, 204, 205, 206, 207, 208, 209, 210, 211, 212, 213, 214, 215, 216, 217, 218, 219, 220, 221, 222, 223, 224, 225, 226, 227, 228, 229, 230, 231, 232, 233, 234, 235, 236] (by decide +kernel) (by decide +kernel)
set_option maxRecDepth 20000 in
theorem gX2_doWhole_X2_start : GoodIn wsX2_doWhole (wsV RX2 142 RX2 yX2_start wsX2_start) := goodIn_app (goodIn_of _ (by decide +kernel)) ggX2_doWhole_X2_start
theorem dX2_doWhole_6 : decode cX2_doWhole 6 = .ok (.invokevirtual 142, 3) := by decide +kernel
theorem dX2_doWhole_9 : decode cX2_doWhole 9 = .ok (.pop, 1) := by decide +kernel
theorem dX2_doWhole_10 : decode cX2_doWhole 10 = .ok (.iconst 0, 1) := by decide +kernel
theorem dX2_doWhole_11 : decode cX2_doWhole 11 = .ok (.istore 5, 2) := by decide +kernel
theorem dX2_doWhole_13 : decode cX2_doWhole 13 = .ok (.iload 5, 2) := by decide +kernel
theorem dX2_doWhole_15 : decode cX2_doWhole 15 = .ok (.sipush 200, 3) := by decide +kernel
theorem dX2_doWhole_18 : decode cX2_doWhole 18 = .ok (.if_icmp .ge 20, 3) := by decide +kernel
theorem dX2_doWhole_21 : decode cX2_doWhole 21 = .ok (.aload_n 0, 1) := by decide +kernel
set_option maxRecDepth 20000 in
theorem ggX2_doWhole_X2_isOver : GoodIn wsX2_doWhole wsX2_isOver := goodIn_r _ [112, 7, 198, 199, 200, 201, 202, 203, 204, 205, 206, 207, 208, 209, 210, 211, 212, 213, 214, 215, 216, 217] (by decide +kernel) (by decide +kernel)
set_option maxRecDepth 20000 in
theorem gX2_doWhole_X2_isOver : GoodIn wsX2_doWhole (wsV RX2 146 RX2 yX2_isOver wsX2_isOver) := goodIn_app (goodIn_of _ (by decide +kernel)) ggX2_doWhole_X2_isOver
theorem dX2_doWhole_22 : decode cX2_doWhole 22 = .ok (.invokevirtual 146, 3) := by decide +kernel
theorem dX2_doWhole_25 : decode cX2_doWhole 25 = .ok (.ifCond .ne 13, 3) := by decide +kernel
theorem dX2_doWhole_38 : decode cX2_doWhole 38 = .ok (.aload_n 0, 1) := by decide +kernel
theorem dX2_doWhole_39 : decode cX2_doWhole 39 = .ok (.aload_n 3, 1) := by decide +kernel
set_option maxRecDepth 20000 in
theorem ggX2_doWhole_X2_writeTo : GoodIn wsX2_doWhole wsX2_writeTo := goodIn_r _ [186, 7, 187, 188, 189, 45, 190, 47, 145, 146, 147, 32, 148, 34, 64, 153, 154, 155, 156, 63, 69, 191, 192, 52, 193, 194, 195, 196, 197, 48, 198, 199, 200, 201, 202, 203, 204, 205, 206, 207, 208, 209, 210, 211, 212, 218, 219, 213, 214, 215, 216, 217] (by decide +kernel) (by decide +kernel)
set_option maxRecDepth 20000 in
theorem gX2_doWhole_X2_writeTo : GoodIn wsX2_doWhole (wsV RX2 152 RX2 yX2_writeTo wsX2_writeTo) := goodIn_app (goodIn_of _ (by decide +kernel)) ggX2_doWhole_X2_writeTo
theorem dX2_doWhole_40 : decode cX2_doWhole 40 = .ok (.invokevirtual 152, 3) := by decide +kernel
theorem dX2_doWhole_43 : decode cX2_doWhole 43 = .ok (.return_, 1) := by decide +kernel
set_option maxHeartbeats 4000000 in
set_option maxRecDepth 100000 in
theorem c_X7_empty (l : Launch) (dC : Nat → ClassId) (dI : Nat → Nat → Nat) (g : Nat → ClassId) (Wd : va_W) (t : Nat) (a : Nat) (b : Nat) (c : Nat) (k0 : Nat) (w0 : Wd[k0]? = some (t, .inr (9, [.ref a, .ref b, .ref c, .int 0, .int 0]))) (sz : Nat) : Met l yX7_empty wsX7_empty ({ frames := 0, cells := 0, slots := 0, locals := 0 }) (va_Pc [.ref t] (PG (dC, dI) g Wd sz)) (va_Qv (fun (_ : Unit) => True) (fun (_ : Unit) t => va_P (dC, dI) vwCl Wd t.heap) (va_A Wd sz)) 0 0 (va_A Wd sz) := by
  refine Met.ofW (cc := cX7_empty) (maxL := 1) (ret := none) (by decide) rfl ?_
  intro p e s m args below meth c s₁ B hml hv
  obtain ⟨rfl, hsz, hP, hK, hD0, hG⟩ := hv
  have hx := B.exec
  have hb := B.bytes
  have hr := B.returns
  have hts := atoms_spec (ws := wsX7_empty) B.pre
  have hown : s.vm.findClass RX7 = some m.cls := findClass_of_methodNamed B.named
  have hlocks := B.notSynchronized
  subst hsz
  have hD := hD0.self (sz := s.heap.size)
  generalize hAe : va_A Wd s.heap.size = A at hD hG ⊢
  have hA : ∀ q : Nat, s.heap.size ≤ q → A q := fun q h => by rw [← hAe]; exact Or.inr h
  have hS : va_S A s.heap s.heap [] := va_S.rf
  have hl := lv_entry ([.ref t]) (n := 1) (Nat.le_of_ble_eq_true rfl)
  rw [lg_entry_eq]
  generalize (lg_sl ([.ref t]) ++ List.replicate (1 - (lg_sl ([.ref t])).length) Slot.unset).toArray = ls at hl ⊢
  have hl : lv_has ls 1 [(0, .ref t)] := hl
  have hf21 := hts (Cond.fieldLink RX7 21 "RunmergeOffice$RunRow" "count" "I") (by decide +kernel)
  have hiX7 : ∀ w ∈ u_ws RX7 TX7 5, w ∈ wsX7_empty := by decide +kernel
  have hf25 := hts (Cond.fieldLink RX7 25 "RunmergeOffice$RunRow" "filled" "I") (by decide +kernel)
  refine lv_aload_n hx hb dX7_empty_0 rfl (lv_at hl 0 rfl) ?_
  refine lv_iconst (v := 0) hx hb dX7_empty_1 (by decide) ?_
  refine va_putS (D := (dC, dI)) (ci := 9) (v := .int 0) (ty := .int) (C := RX7) (T := TX7) (N := 5) hx hb hts hiX7 tyX7 tyX7_ok nmX7 hown hK hP hD hS k0 w0 rfl 3 (by decide) hf21 (fun _ h9 => h9) rfl (by decide +kernel) rfl rfl (Nat.le_of_ble_eq_true rfl) rfl dX7_empty_2 (fun H_1 L_2 hP hS => ?_)
  refine lv_aload_n hx hb dX7_empty_5 rfl (lv_at hl 0 rfl) ?_
  refine lv_iconst (v := 0) hx hb dX7_empty_6 (by decide) ?_
  refine va_putS (D := (dC, dI)) (ci := 9) (v := .int 0) (ty := .int) (C := RX7) (T := TX7) (N := 5) hx hb hts hiX7 tyX7 tyX7_ok nmX7 hown hK hP hD hS k0 w0 rfl 4 (by decide) hf25 (fun _ h9 => h9) rfl (by decide +kernel) rfl rfl (Nat.le_of_ble_eq_true rfl) rfl dX7_empty_7 (fun H_3 L_4 hP hS => ?_)
  exact W.vret hx hb hr (fun t ht hW => ⟨⟨(), rfl, trivial, P_at ht hP⟩, hS.F ht⟩) hS.2.2 dX7_empty_10
set_option maxHeartbeats 4000000 in
set_option maxRecDepth 100000 in
theorem c_X7_lengthOf (l : Launch) (dC : Nat → ClassId) (dI : Nat → Nat → Nat) (g : Nat → ClassId) (Wd : va_W) (t : Nat) (a : Nat) (b : Nat) (c : Nat) (k0 : Nat) (w0 : Wd[k0]? = some (t, .inr (9, [.ref a, .ref b, .ref c, .int 0, .int 0]))) (sz : Nat) : Met l yX7_lengthOf wsX7_lengthOf ({ frames := 0, cells := 0, slots := 0, locals := 0 }) (va_Pc [.ref t, .int 0] (PG (dC, dI) g Wd sz)) (va_Qi (fun (r : Int32) (_ : Unit) => r = 0) (fun (_ : Unit) t => va_P (dC, dI) vwCl Wd t.heap) (va_A Wd sz)) 0 0 (va_A Wd sz) := by
  refine Met.ofW (cc := cX7_lengthOf) (maxL := 2) (ret := (some .int)) (by decide) rfl ?_
  intro p e s m args below meth c s₁ B hml hv
  obtain ⟨rfl, hsz, hP, hK, hD0, hG⟩ := hv
  have hx := B.exec
  have hb := B.bytes
  have hr := B.returns
  have hts := atoms_spec (ws := wsX7_lengthOf) B.pre
  have hown : s.vm.findClass RX7 = some m.cls := findClass_of_methodNamed B.named
  have hlocks := B.notSynchronized
  subst hsz
  have hD := hD0.self (sz := s.heap.size)
  generalize hAe : va_A Wd s.heap.size = A at hD hG ⊢
  have hA : ∀ q : Nat, s.heap.size ≤ q → A q := fun q h => by rw [← hAe]; exact Or.inr h
  have hS : va_S A s.heap s.heap [] := va_S.rf
  have hl := lv_entry ([.ref t, .int 0]) (n := 2) (Nat.le_of_ble_eq_true rfl)
  rw [lg_entry_eq]
  generalize (lg_sl ([.ref t, .int 0]) ++ List.replicate (2 - (lg_sl ([.ref t, .int 0])).length) Slot.unset).toArray = ls at hl ⊢
  have hl : lv_has ls 2 [(0, .ref t), (1, .int 0)] := hl
  have hf21 := hts (Cond.fieldLink RX7 21 "RunmergeOffice$RunRow" "count" "I") (by decide +kernel)
  have hiX7 : ∀ w ∈ u_ws RX7 TX7 5, w ∈ wsX7_lengthOf := by decide +kernel
  refine lv_iload_n hx hb dX7_lengthOf_0 rfl (lv_at hl 1 rfl) ?_
  refine lv_if_lt (tgt := 28) hx hb dX7_lengthOf_1 (by decide) (fun c_1 => absurd c_1 (by decide)) (fun c_1 => ?_)
  refine lv_iload_n hx hb dX7_lengthOf_4 rfl (lv_at hl 1 rfl) ?_
  refine lv_aload_n hx hb dX7_lengthOf_5 rfl (lv_at hl 0 rfl) ?_
  refine va_get (D := (dC, dI)) (ci := 9) (v := .int 0) (C := RX7) (T := TX7) (N := 5) hx hb hts hiX7 hown hK hP k0 w0 rfl 3 (by decide) hf21 (fun _ h9 => h9) rfl dX7_lengthOf_6 ?_
  refine lv_icmp_ge (tgt := 28) hx hb dX7_lengthOf_9 (by decide) (fun c_2 => ?_) (fun c_2 => absurd (by decide) c_2)
  refine lv_iconst (v := 0) hx hb dX7_lengthOf_28 (by decide) ?_
  exact W.iret (v := 0) hx hb hr (fun t ht hW => ⟨⟨0, (), rfl, rfl, P_at ht hP⟩, hS.F ht⟩) hS.2.2 dX7_lengthOf_29
set_option maxHeartbeats 4000000 in
set_option maxRecDepth 100000 in
theorem c_X6_makeFull (l : Launch) (dC : Nat → ClassId) (dI : Nat → Nat → Nat) (g : Nat → ClassId) (Wd : va_W) (t : Nat) (a : Nat) (b : Nat) (bk : Nat) (tp : Nat) (h : Nat) (r : Nat) (od : Int32) (room : Int32) (k0 : Nat) (w0 : Wd[k0]? = some (t, .inr (8, [.ref a, .ref b, .int 0]))) (k1 : Nat) (w1 : Wd[k1]? = some (tp, .inr (11, [.ref h, .int 0]))) (sz : Nat) : Met l yX6_makeFull wsX6_makeFull ({ frames := 0, cells := 0, slots := 0, locals := 0 }) (va_Pc [.ref t, .ref bk, .ref tp, .int od, .int room, .ref r] (PG (dC, dI) g Wd sz)) (va_Qv (fun (_ : Unit) => True) (fun (_ : Unit) t => va_P (dC, dI) vwCl Wd t.heap) (va_A Wd sz)) 0 0 (va_A Wd sz) := by
  refine Met.ofW (cc := cX6_makeFull) (maxL := 8) (ret := none) (by decide) rfl ?_
  intro p e s m args below meth c s₁ B hml hv
  obtain ⟨rfl, hsz, hP, hK, hD0, hG⟩ := hv
  have hx := B.exec
  have hb := B.bytes
  have hr := B.returns
  have hts := atoms_spec (ws := wsX6_makeFull) B.pre
  have hown : s.vm.findClass RX6 = some m.cls := findClass_of_methodNamed B.named
  have hlocks := B.notSynchronized
  subst hsz
  have hD := hD0.self (sz := s.heap.size)
  generalize hAe : va_A Wd s.heap.size = A at hD hG ⊢
  have hA : ∀ q : Nat, s.heap.size ≤ q → A q := fun q h => by rw [← hAe]; exact Or.inr h
  have hS : va_S A s.heap s.heap [] := va_S.rf
  have hl := lv_entry ([.ref t, .ref bk, .ref tp, .int od, .int room, .ref r]) (n := 8) (Nat.le_of_ble_eq_true rfl)
  rw [lg_entry_eq]
  generalize (lg_sl ([.ref t, .ref bk, .ref tp, .int od, .int room, .ref r]) ++ List.replicate (8 - (lg_sl ([.ref t, .ref bk, .ref tp, .int od, .int room, .ref r])).length) Slot.unset).toArray = ls at hl ⊢
  have hl : lv_has ls 8 [(0, .ref t), (1, .ref bk), (2, .ref tp), (3, .int od), (4, .int room), (5, .ref r)] := hl
  have hf18 := hts (Cond.fieldLink RX6 18 "RunmergeOffice$RunMaker" "held" "I") (by decide +kernel)
  have hiX6 : ∀ w ∈ u_ws RX6 TX6 3, w ∈ wsX6_makeFull := by decide +kernel
  have hiX9 : ∀ w ∈ u_ws RX9 TX9 2, w ∈ wsX6_makeFull := by decide +kernel
  refine lv_aload_n hx hb dX6_makeFull_0 rfl (lv_at hl 0 rfl) ?_
  refine lv_iconst (v := 0) hx hb dX6_makeFull_1 (by decide) ?_
  refine va_putS (D := (dC, dI)) (ci := 8) (v := .int 0) (ty := .int) (C := RX6) (T := TX6) (N := 3) hx hb hts hiX6 tyX6 tyX6_ok nmX6 hown hK hP hD hS k0 w0 rfl 2 (by decide) hf18 (fun _ h9 => h9) rfl (by decide +kernel) rfl rfl (Nat.le_of_ble_eq_true rfl) rfl dX6_makeFull_2 (fun H_1 L_2 hP hS => ?_)
  refine lv_iconst (v := 0) hx hb dX6_makeFull_5 (by decide) ?_
  refine lv_istore (lv' := [(6, .int 0), (0, .ref t), (1, .ref bk), (2, .ref tp), (3, .int od), (4, .int room), (5, .ref r)]) hx hb dX6_makeFull_6 hl (by decide) rfl (fun ls hl => ?_)
  refine lv_iload hx hb dX6_makeFull_8 (lv_at hl 0 rfl) ?_
  refine lv_aload_n hx hb dX6_makeFull_10 rfl (lv_at hl 3 rfl) ?_
  refine va_getN (D := (dC, dI)) (ci := 11) (v := .int 0) (C := RX9) (T := TX9) (N := 2) hx hb hts hiX9 hown hK hP k1 w1 rfl 1 (by decide) (nf_2 hG) (fun _ h9 => h9) rfl dX6_makeFull_11 ?_
  refine lv_icmp_ge (tgt := 105) hx hb dX6_makeFull_14 (by decide) (fun c_3 => ?_) (fun c_3 => absurd (by decide) c_3)
  exact W.vret hx hb hr (fun t ht hW => ⟨⟨(), rfl, trivial, P_at ht hP⟩, hS.F ht⟩) hS.2.2 dX6_makeFull_105
set_option maxHeartbeats 4000000 in
set_option maxRecDepth 100000 in
theorem c_X6_makeByReplacement (l : Launch) (dC : Nat → ClassId) (dI : Nat → Nat → Nat) (g : Nat → ClassId) (Wd : va_W) (t : Nat) (a : Nat) (b : Nat) (bk : Nat) (tp : Nat) (h : Nat) (r : Nat) (od : Int32) (k0 : Nat) (w0 : Wd[k0]? = some (t, .inr (8, [.ref a, .ref b, .int 0]))) (k1 : Nat) (w1 : Wd[k1]? = some (tp, .inr (11, [.ref h, .int 0]))) (sz : Nat) : Met l yX6_makeByReplacement wsX6_makeByReplacement ({ frames := 0, cells := 0, slots := 0, locals := 0 }) (va_Pc [.ref t, .ref bk, .ref tp, .int od, .int 4, .ref r] (PG (dC, dI) g Wd sz)) (va_Qv (fun (_ : Unit) => True) (fun (_ : Unit) t => va_P (dC, dI) vwCl Wd t.heap) (va_A Wd sz)) 0 0 (va_A Wd sz) := by
  refine Met.ofW (cc := cX6_makeByReplacement) (maxL := 12) (ret := none) (by decide) rfl ?_
  intro p e s m args below meth c s₁ B hml hv
  obtain ⟨rfl, hsz, hP, hK, hD0, hG⟩ := hv
  have hx := B.exec
  have hb := B.bytes
  have hr := B.returns
  have hts := atoms_spec (ws := wsX6_makeByReplacement) B.pre
  have hown : s.vm.findClass RX6 = some m.cls := findClass_of_methodNamed B.named
  have hlocks := B.notSynchronized
  subst hsz
  have hD := hD0.self (sz := s.heap.size)
  generalize hAe : va_A Wd s.heap.size = A at hD hG ⊢
  have hA : ∀ q : Nat, s.heap.size ≤ q → A q := fun q h => by rw [← hAe]; exact Or.inr h
  have hS : va_S A s.heap s.heap [] := va_S.rf
  have hl := lv_entry ([.ref t, .ref bk, .ref tp, .int od, .int 4, .ref r]) (n := 12) (Nat.le_of_ble_eq_true rfl)
  rw [lg_entry_eq]
  generalize (lg_sl ([.ref t, .ref bk, .ref tp, .int od, .int 4, .ref r]) ++ List.replicate (12 - (lg_sl ([.ref t, .ref bk, .ref tp, .int od, .int 4, .ref r])).length) Slot.unset).toArray = ls at hl ⊢
  have hl : lv_has ls 12 [(0, .ref t), (1, .ref bk), (2, .ref tp), (3, .int od), (4, .int 4), (5, .ref r)] := hl
  have hf18 := hts (Cond.fieldLink RX6 18 "RunmergeOffice$RunMaker" "held" "I") (by decide +kernel)
  have hiX6 : ∀ w ∈ u_ws RX6 TX6 3, w ∈ wsX6_makeByReplacement := by decide +kernel
  have hiX9 : ∀ w ∈ u_ws RX9 TX9 2, w ∈ wsX6_makeByReplacement := by decide +kernel
  refine lv_aload_n hx hb dX6_makeByReplacement_0 rfl (lv_at hl 0 rfl) ?_
  refine lv_iconst (v := 0) hx hb dX6_makeByReplacement_1 (by decide) ?_
  refine va_putS (D := (dC, dI)) (ci := 8) (v := .int 0) (ty := .int) (C := RX6) (T := TX6) (N := 3) hx hb hts hiX6 tyX6 tyX6_ok nmX6 hown hK hP hD hS k0 w0 rfl 2 (by decide) hf18 (fun _ h9 => h9) rfl (by decide +kernel) rfl rfl (Nat.le_of_ble_eq_true rfl) rfl dX6_makeByReplacement_2 (fun H_1 L_2 hP hS => ?_)
  refine lv_iconst (v := 0) hx hb dX6_makeByReplacement_5 (by decide) ?_
  refine lv_istore (lv' := [(6, .int 0), (0, .ref t), (1, .ref bk), (2, .ref tp), (3, .int od), (4, .int 4), (5, .ref r)]) hx hb dX6_makeByReplacement_6 hl (by decide) rfl (fun ls hl => ?_)
  refine lv_iload hx hb dX6_makeByReplacement_8 (lv_at hl 0 rfl) ?_
  refine lv_aload_n hx hb dX6_makeByReplacement_10 rfl (lv_at hl 3 rfl) ?_
  refine va_getN (D := (dC, dI)) (ci := 11) (v := .int 0) (C := RX9) (T := TX9) (N := 2) hx hb hts hiX9 hown hK hP k1 w1 rfl 1 (by decide) (nf_2 hG) (fun _ h9 => h9) rfl dX6_makeByReplacement_11 ?_
  refine lv_icmp_ge (tgt := 48) hx hb dX6_makeByReplacement_14 (by decide) (fun c_3 => ?_) (fun c_3 => absurd (by decide) c_3)
  refine lv_aload_n hx hb dX6_makeByReplacement_48 rfl (lv_at hl 1 rfl) ?_
  refine lv_iload hx hb dX6_makeByReplacement_49 (lv_at hl 0 rfl) ?_
  refine va_putS (D := (dC, dI)) (ci := 8) (v := .int 0) (ty := .int) (C := RX6) (T := TX6) (N := 3) hx hb hts hiX6 tyX6 tyX6_ok nmX6 hown hK hP hD hS k0 w0 rfl 2 (by decide) hf18 (fun _ h9 => h9) rfl (by decide +kernel) rfl rfl (Nat.le_of_ble_eq_true rfl) rfl dX6_makeByReplacement_51 (fun H_4 L_5 hP hS => ?_)
  refine lv_iconst (v := 0) hx hb dX6_makeByReplacement_54 (by decide) ?_
  refine lv_istore (lv' := [(7, .int 0), (6, .int 0), (0, .ref t), (1, .ref bk), (2, .ref tp), (3, .int od), (4, .int 4), (5, .ref r)]) hx hb dX6_makeByReplacement_55 hl (by decide) rfl (fun ls hl => ?_)
  refine lv_iconst (v := 0) hx hb dX6_makeByReplacement_57 (by decide) ?_
  refine lv_istore (lv' := [(8, .int 0), (7, .int 0), (6, .int 0), (0, .ref t), (1, .ref bk), (2, .ref tp), (3, .int od), (4, .int 4), (5, .ref r)]) hx hb dX6_makeByReplacement_58 hl (by decide) rfl (fun ls hl => ?_)
  refine lv_iload hx hb dX6_makeByReplacement_60 (lv_at hl 0 rfl) ?_
  refine lv_aload_n hx hb dX6_makeByReplacement_62 rfl (lv_at hl 5 rfl) ?_
  refine va_getN (D := (dC, dI)) (ci := 11) (v := .int 0) (C := RX9) (T := TX9) (N := 2) hx hb hts hiX9 hown hK hP k1 w1 rfl 1 (by decide) (nf_2 hG) (fun _ h9 => h9) rfl dX6_makeByReplacement_63 ?_
  refine lv_icmp_ge (tgt := 211) hx hb dX6_makeByReplacement_66 (by decide) (fun c_6 => ?_) (fun c_6 => absurd (by decide) c_6)
  exact W.vret hx hb hr (fun t ht hW => ⟨⟨(), rfl, trivial, P_at ht hP⟩, hS.F ht⟩) hS.2.2 dX6_makeByReplacement_211
set_option maxHeartbeats 4000000 in
set_option maxRecDepth 100000 in
theorem c_X6_makeNatural (l : Launch) (dC : Nat → ClassId) (dI : Nat → Nat → Nat) (g : Nat → ClassId) (Wd : va_W) (t : Nat) (bk : Nat) (tp : Nat) (h : Nat) (r : Nat) (od : Int32) (k0 : Nat) (w0 : Wd[k0]? = some (tp, .inr (11, [.ref h, .int 0]))) (sz : Nat) : Met l yX6_makeNatural wsX6_makeNatural ({ frames := 0, cells := 0, slots := 0, locals := 0 }) (va_Pc [.ref t, .ref bk, .ref tp, .int od, .ref r] (PG (dC, dI) g Wd sz)) (va_Qv (fun (_ : Unit) => True) (fun (_ : Unit) t => va_P (dC, dI) vwCl Wd t.heap) (va_A Wd sz)) 0 0 (va_A Wd sz) := by
  refine Met.ofW (cc := cX6_makeNatural) (maxL := 8) (ret := none) (by decide) rfl ?_
  intro p e s m args below meth c s₁ B hml hv
  obtain ⟨rfl, hsz, hP, hK, hD0, hG⟩ := hv
  have hx := B.exec
  have hb := B.bytes
  have hr := B.returns
  have hts := atoms_spec (ws := wsX6_makeNatural) B.pre
  have hown : s.vm.findClass RX6 = some m.cls := findClass_of_methodNamed B.named
  have hlocks := B.notSynchronized
  subst hsz
  have hD := hD0.self (sz := s.heap.size)
  generalize hAe : va_A Wd s.heap.size = A at hD hG ⊢
  have hA : ∀ q : Nat, s.heap.size ≤ q → A q := fun q h => by rw [← hAe]; exact Or.inr h
  have hS : va_S A s.heap s.heap [] := va_S.rf
  have hl := lv_entry ([.ref t, .ref bk, .ref tp, .int od, .ref r]) (n := 8) (Nat.le_of_ble_eq_true rfl)
  rw [lg_entry_eq]
  generalize (lg_sl ([.ref t, .ref bk, .ref tp, .int od, .ref r]) ++ List.replicate (8 - (lg_sl ([.ref t, .ref bk, .ref tp, .int od, .ref r])).length) Slot.unset).toArray = ls at hl ⊢
  have hl : lv_has ls 8 [(0, .ref t), (1, .ref bk), (2, .ref tp), (3, .int od), (4, .ref r)] := hl
  have hiX9 : ∀ w ∈ u_ws RX9 TX9 2, w ∈ wsX6_makeNatural := by decide +kernel
  refine lv_iconst (v := 0) hx hb dX6_makeNatural_0 (by decide) ?_
  refine lv_istore (lv' := [(5, .int 0), (0, .ref t), (1, .ref bk), (2, .ref tp), (3, .int od), (4, .ref r)]) hx hb dX6_makeNatural_1 hl (by decide) rfl (fun ls hl => ?_)
  refine lv_iconst (v := 0) hx hb dX6_makeNatural_3 (by decide) ?_
  refine lv_istore (lv' := [(6, .int 0), (5, .int 0), (0, .ref t), (1, .ref bk), (2, .ref tp), (3, .int od), (4, .ref r)]) hx hb dX6_makeNatural_4 hl (by decide) rfl (fun ls hl => ?_)
  refine lv_iload hx hb dX6_makeNatural_6 (lv_at hl 0 rfl) ?_
  refine lv_aload_n hx hb dX6_makeNatural_8 rfl (lv_at hl 4 rfl) ?_
  refine va_getN (D := (dC, dI)) (ci := 11) (v := .int 0) (C := RX9) (T := TX9) (N := 2) hx hb hts hiX9 hown hK hP k0 w0 rfl 1 (by decide) (nf_2 hG) (fun _ h9 => h9) rfl dX6_makeNatural_9 ?_
  refine lv_icmp_ge (tgt := 62) hx hb dX6_makeNatural_12 (by decide) (fun c_1 => ?_) (fun c_1 => absurd (by decide) c_1)
  exact W.vret hx hb hr (fun t ht hW => ⟨⟨(), rfl, trivial, P_at ht hP⟩, hS.F ht⟩) hS.2.2 dX6_makeNatural_62
set_option maxHeartbeats 4000000 in
set_option maxRecDepth 100000 in
theorem c_X6_makeRuns_0 (l : Launch) (dC : Nat → ClassId) (dI : Nat → Nat → Nat) (g : Nat → ClassId) (Wd : va_W) (t : Nat) (a : Nat) (b : Nat) (bk : Nat) (tp : Nat) (h : Nat) (w : Nat) (r : Nat) (ra : Nat) (rb : Nat) (rc : Nat) (mw : Int32) (k0 : Nat) (w0 : Wd[k0]? = some (t, .inr (8, [.ref a, .ref b, .int 0]))) (k1 : Nat) (w1 : Wd[k1]? = some (tp, .inr (11, [.ref h, .int 0]))) (k2 : Nat) (w2 : Wd[k2]? = some (w, .inr (10, [.int 0, .int 0, .int 4, .int mw, .int 2]))) (k3 : Nat) (w3 : Wd[k3]? = some (r, .inr (9, [.ref ra, .ref rb, .ref rc, .int 0, .int 0]))) (sz : Nat) : Met l yX6_makeRuns wsX6_makeRuns ({ frames := 1, cells := 0, slots := 0, locals := 27 }) (va_Pc [.ref t, .ref bk, .ref tp, .ref w, .ref r] (PG (dC, dI) g Wd sz)) (va_Qv (fun (_ : Unit) => True) (fun (_ : Unit) t => va_P (dC, dI) vwCl Wd t.heap) (va_A Wd sz)) 0 0 (va_A Wd sz) := by
  refine Met.ofW (cc := cX6_makeRuns) (maxL := 6) (ret := none) (by decide) rfl ?_
  intro p e s m args below meth c s₁ B hml hv
  obtain ⟨rfl, hsz, hP, hK, hD0, hG⟩ := hv
  have hx := B.exec
  have hb := B.bytes
  have hr := B.returns
  have hts := atoms_spec (ws := wsX6_makeRuns) B.pre
  have hown : s.vm.findClass RX6 = some m.cls := findClass_of_methodNamed B.named
  have hlocks := B.notSynchronized
  subst hsz
  have hD := hD0.self (sz := s.heap.size)
  generalize hAe : va_A Wd s.heap.size = A at hD hG ⊢
  have hA : ∀ q : Nat, s.heap.size ≤ q → A q := fun q h => by rw [← hAe]; exact Or.inr h
  have hS : va_S A s.heap s.heap [] := va_S.rf
  have hl := lv_entry ([.ref t, .ref bk, .ref tp, .ref w, .ref r]) (n := 6) (Nat.le_of_ble_eq_true rfl)
  rw [lg_entry_eq]
  generalize (lg_sl ([.ref t, .ref bk, .ref tp, .ref w, .ref r]) ++ List.replicate (6 - (lg_sl ([.ref t, .ref bk, .ref tp, .ref w, .ref r])).length) Slot.unset).toArray = ls at hl ⊢
  have hl : lv_has ls 6 [(0, .ref t), (1, .ref bk), (2, .ref tp), (3, .ref w), (4, .ref r)] := hl
  have hiX8 : ∀ w ∈ u_ws RX8 TX8 5, w ∈ wsX6_makeRuns := by decide +kernel
  have hmmin31_0 := hts (Cond.methodLink RX6 31 Lib.Math.min.name) (by decide +kernel)
  have hmmin31_1 := hts (Cond.static Lib.Math.min.name) (by decide +kernel)
  have hmmin31_2 := hts (Cond.initialized "java/lang/Math") (by decide +kernel)
  have hmmin31_3 := hts (Cond.code Lib.Math.min.name Lib.Math.min.code 2 (some .int)) (by decide +kernel)
  have hmmax37_0 := hts (Cond.methodLink RX6 37 Lib.Math.max.name) (by decide +kernel)
  have hmmax37_1 := hts (Cond.static Lib.Math.max.name) (by decide +kernel)
  have hmmax37_2 := hts (Cond.initialized "java/lang/Math") (by decide +kernel)
  have hmmax37_3 := hts (Cond.code Lib.Math.max.name Lib.Math.max.code 2 (some .int)) (by decide +kernel)
  refine lv_aload hx hb dX6_makeRuns_0 (lv_at hl 4 rfl) ?_
  refine va_callv (va_runV (As := []) (rest := []) ⟨hx, hb, hml, hown, hts⟩ (c_X7_empty l dC dI g Wd r ra rb rc k3 w3  s.heap.size) (cwV 0 hts gX6_makeRuns_X7_empty rfl rfl rfl (by decide +kernel) ⟨Nat.le_of_ble_eq_true rfl, Nat.le_of_ble_eq_true rfl⟩) ⟨PG_blind, va_recv hK hP (ci := 9) (q0 := k3) rfl w3, PG_call hK hG hS hP hD (A_all hD hA hS.1)⟩ rfl rfl hl.1 rfl (lv_room (Nat.le_of_ble_eq_true rfl)) dX6_makeRuns_2 ⟨Nat.le_of_ble_eq_true rfl, Nat.le_of_ble_eq_true rfl⟩) hS (fun q _ h => (A_all hD hA hS.1) q h) (A_all hD hA hS.1) (fun u_1 t_1 H_1 L_1 ht_1 hvm_1 hw_1 hB_1 hz_1 hk_1 hS => ?_)
  replace hB_1 := (show va_P (dC, dI) vwCl Wd t_1.heap from hB_1)
  rw [ht_1] at hB_1
  have hP := hB_1
  refine lv_iconst (v := 1) hx hb dX6_makeRuns_5 (by decide) ?_
  refine lv_aload_n hx hb dX6_makeRuns_6 rfl (lv_at hl 3 rfl) ?_
  refine va_getN (D := (dC, dI)) (ci := 10) (v := .int 4) (C := RX8) (T := TX8) (N := 5) hx hb hts hiX8 hown hK hP k2 w2 rfl 2 (by decide) (nf_13 hG) (fun _ h9 => h9) rfl dX6_makeRuns_7 ?_
  refine lv_bipush (v := 50) hx hb dX6_makeRuns_10 (by decide) ?_
  refine va_mmin hx hb (hml.trans hl.1.symm) hown hmmin31_0 hmmin31_1 hmmin31_2 hmmin31_3 (Nat.le_of_ble_eq_true rfl) (Nat.le_of_ble_eq_true rfl) (Nat.le_of_ble_eq_true rfl) (Nat.le_of_ble_eq_true rfl) dX6_makeRuns_12 ?_
  refine lv_topi (fun x_2 ex_2 => ?_)
  obtain rfl : x_2 = 4 := ex_2.trans (by decide)
  refine va_mmax hx hb (hml.trans hl.1.symm) hown hmmax37_0 hmmax37_1 hmmax37_2 hmmax37_3 (Nat.le_of_ble_eq_true rfl) (Nat.le_of_ble_eq_true rfl) (Nat.le_of_ble_eq_true rfl) (Nat.le_of_ble_eq_true rfl) dX6_makeRuns_15 ?_
  refine lv_topi (fun x_3 ex_3 => ?_)
  obtain rfl : x_3 = 4 := ex_3.trans (by decide)
  refine lv_istore (lv' := [(5, .int 4), (0, .ref t), (1, .ref bk), (2, .ref tp), (3, .ref w), (4, .ref r)]) hx hb dX6_makeRuns_18 hl (by decide) rfl (fun ls hl => ?_)
  refine lv_aload_n hx hb dX6_makeRuns_20 rfl (lv_at hl 4 rfl) ?_
  refine va_getN (D := (dC, dI)) (ci := 10) (v := .int 0) (C := RX8) (T := TX8) (N := 5) hx hb hts hiX8 hown hK hP k2 w2 rfl 1 (by decide) (nf_9 hG) (fun _ h9 => h9) rfl dX6_makeRuns_21 ?_
  refine lv_if_ne (tgt := 44) hx hb dX6_makeRuns_24 (by decide) (fun c_4 => absurd (by decide) c_4) (fun c_4 => ?_)
  refine lv_aload_n hx hb dX6_makeRuns_27 rfl (lv_at hl 1 rfl) ?_
  refine lv_aload_n hx hb dX6_makeRuns_28 rfl (lv_at hl 2 rfl) ?_
  refine lv_aload_n hx hb dX6_makeRuns_29 rfl (lv_at hl 3 rfl) ?_
  refine lv_aload_n hx hb dX6_makeRuns_30 rfl (lv_at hl 4 rfl) ?_
  refine va_getN (D := (dC, dI)) (ci := 10) (v := .int 0) (C := RX8) (T := TX8) (N := 5) hx hb hts hiX8 hown hK hP k2 w2 rfl 0 (by decide) (nf_5 hG) (fun _ h9 => h9) rfl dX6_makeRuns_31 ?_
  refine lv_iload hx hb dX6_makeRuns_34 (lv_at hl 0 rfl) ?_
  refine lv_aload hx hb dX6_makeRuns_36 (lv_at hl 5 rfl) ?_
  refine va_callv (va_runV (As := [.ref bk, .ref tp, .int 0, .int 4, .ref r]) (rest := []) ⟨hx, hb, hml, hown, hts⟩ (c_X6_makeFull l dC dI g Wd t a b bk tp h r 0 4 k0 w0 k1 w1  H_1.size) (cwV 5 hts gX6_makeRuns_X6_makeFull rfl rfl rfl (by decide +kernel) ⟨Nat.le_of_ble_eq_true rfl, Nat.le_of_ble_eq_true rfl⟩) ⟨PG_blind, va_recv hK hP (ci := 8) (q0 := k0) rfl w0, PG_call hK hG hS hP hD (A_all hD hA hS.1)⟩ rfl rfl hl.1 rfl (lv_room (Nat.le_of_ble_eq_true rfl)) dX6_makeRuns_38 ⟨Nat.le_of_ble_eq_true rfl, Nat.le_of_ble_eq_true rfl⟩) hS (fun q _ h => (A_all hD hA hS.1) q h) (A_all hD hA hS.1) (fun u_5 t_5 H_5 L_5 ht_5 hvm_5 hw_5 hB_5 hz_5 hk_5 hS => ?_)
  replace hB_5 := (show va_P (dC, dI) vwCl Wd t_5.heap from hB_5)
  rw [ht_5] at hB_5
  have hP := hB_5
  refine lv_goto (tgt := 81) hx hb dX6_makeRuns_41 (by decide) ?_
  exact W.vret hx hb hr (fun t ht hW => ⟨⟨(), rfl, trivial, P_at ht hP⟩, hS.F ht⟩) hS.2.2 dX6_makeRuns_81
set_option maxHeartbeats 4000000 in
set_option maxRecDepth 100000 in
theorem c_X6_makeRuns_1 (l : Launch) (dC : Nat → ClassId) (dI : Nat → Nat → Nat) (g : Nat → ClassId) (Wd : va_W) (t : Nat) (a : Nat) (b : Nat) (bk : Nat) (tp : Nat) (h : Nat) (w : Nat) (r : Nat) (ra : Nat) (rb : Nat) (rc : Nat) (mw : Int32) (k0 : Nat) (w0 : Wd[k0]? = some (t, .inr (8, [.ref a, .ref b, .int 0]))) (k1 : Nat) (w1 : Wd[k1]? = some (tp, .inr (11, [.ref h, .int 0]))) (k2 : Nat) (w2 : Wd[k2]? = some (w, .inr (10, [.int 0, .int 1, .int 4, .int mw, .int 2]))) (k3 : Nat) (w3 : Wd[k3]? = some (r, .inr (9, [.ref ra, .ref rb, .ref rc, .int 0, .int 0]))) (sz : Nat) : Met l yX6_makeRuns wsX6_makeRuns ({ frames := 1, cells := 0, slots := 0, locals := 31 }) (va_Pc [.ref t, .ref bk, .ref tp, .ref w, .ref r] (PG (dC, dI) g Wd sz)) (va_Qv (fun (_ : Unit) => True) (fun (_ : Unit) t => va_P (dC, dI) vwCl Wd t.heap) (va_A Wd sz)) 0 0 (va_A Wd sz) := by
  refine Met.ofW (cc := cX6_makeRuns) (maxL := 6) (ret := none) (by decide) rfl ?_
  intro p e s m args below meth c s₁ B hml hv
  obtain ⟨rfl, hsz, hP, hK, hD0, hG⟩ := hv
  have hx := B.exec
  have hb := B.bytes
  have hr := B.returns
  have hts := atoms_spec (ws := wsX6_makeRuns) B.pre
  have hown : s.vm.findClass RX6 = some m.cls := findClass_of_methodNamed B.named
  have hlocks := B.notSynchronized
  subst hsz
  have hD := hD0.self (sz := s.heap.size)
  generalize hAe : va_A Wd s.heap.size = A at hD hG ⊢
  have hA : ∀ q : Nat, s.heap.size ≤ q → A q := fun q h => by rw [← hAe]; exact Or.inr h
  have hS : va_S A s.heap s.heap [] := va_S.rf
  have hl := lv_entry ([.ref t, .ref bk, .ref tp, .ref w, .ref r]) (n := 6) (Nat.le_of_ble_eq_true rfl)
  rw [lg_entry_eq]
  generalize (lg_sl ([.ref t, .ref bk, .ref tp, .ref w, .ref r]) ++ List.replicate (6 - (lg_sl ([.ref t, .ref bk, .ref tp, .ref w, .ref r])).length) Slot.unset).toArray = ls at hl ⊢
  have hl : lv_has ls 6 [(0, .ref t), (1, .ref bk), (2, .ref tp), (3, .ref w), (4, .ref r)] := hl
  have hiX8 : ∀ w ∈ u_ws RX8 TX8 5, w ∈ wsX6_makeRuns := by decide +kernel
  have hmmin31_0 := hts (Cond.methodLink RX6 31 Lib.Math.min.name) (by decide +kernel)
  have hmmin31_1 := hts (Cond.static Lib.Math.min.name) (by decide +kernel)
  have hmmin31_2 := hts (Cond.initialized "java/lang/Math") (by decide +kernel)
  have hmmin31_3 := hts (Cond.code Lib.Math.min.name Lib.Math.min.code 2 (some .int)) (by decide +kernel)
  have hmmax37_0 := hts (Cond.methodLink RX6 37 Lib.Math.max.name) (by decide +kernel)
  have hmmax37_1 := hts (Cond.static Lib.Math.max.name) (by decide +kernel)
  have hmmax37_2 := hts (Cond.initialized "java/lang/Math") (by decide +kernel)
  have hmmax37_3 := hts (Cond.code Lib.Math.max.name Lib.Math.max.code 2 (some .int)) (by decide +kernel)
  refine lv_aload hx hb dX6_makeRuns_0 (lv_at hl 4 rfl) ?_
  refine va_callv (va_runV (As := []) (rest := []) ⟨hx, hb, hml, hown, hts⟩ (c_X7_empty l dC dI g Wd r ra rb rc k3 w3  s.heap.size) (cwV 0 hts gX6_makeRuns_X7_empty rfl rfl rfl (by decide +kernel) ⟨Nat.le_of_ble_eq_true rfl, Nat.le_of_ble_eq_true rfl⟩) ⟨PG_blind, va_recv hK hP (ci := 9) (q0 := k3) rfl w3, PG_call hK hG hS hP hD (A_all hD hA hS.1)⟩ rfl rfl hl.1 rfl (lv_room (Nat.le_of_ble_eq_true rfl)) dX6_makeRuns_2 ⟨Nat.le_of_ble_eq_true rfl, Nat.le_of_ble_eq_true rfl⟩) hS (fun q _ h => (A_all hD hA hS.1) q h) (A_all hD hA hS.1) (fun u_1 t_1 H_1 L_1 ht_1 hvm_1 hw_1 hB_1 hz_1 hk_1 hS => ?_)
  replace hB_1 := (show va_P (dC, dI) vwCl Wd t_1.heap from hB_1)
  rw [ht_1] at hB_1
  have hP := hB_1
  refine lv_iconst (v := 1) hx hb dX6_makeRuns_5 (by decide) ?_
  refine lv_aload_n hx hb dX6_makeRuns_6 rfl (lv_at hl 3 rfl) ?_
  refine va_getN (D := (dC, dI)) (ci := 10) (v := .int 4) (C := RX8) (T := TX8) (N := 5) hx hb hts hiX8 hown hK hP k2 w2 rfl 2 (by decide) (nf_13 hG) (fun _ h9 => h9) rfl dX6_makeRuns_7 ?_
  refine lv_bipush (v := 50) hx hb dX6_makeRuns_10 (by decide) ?_
  refine va_mmin hx hb (hml.trans hl.1.symm) hown hmmin31_0 hmmin31_1 hmmin31_2 hmmin31_3 (Nat.le_of_ble_eq_true rfl) (Nat.le_of_ble_eq_true rfl) (Nat.le_of_ble_eq_true rfl) (Nat.le_of_ble_eq_true rfl) dX6_makeRuns_12 ?_
  refine lv_topi (fun x_2 ex_2 => ?_)
  obtain rfl : x_2 = 4 := ex_2.trans (by decide)
  refine va_mmax hx hb (hml.trans hl.1.symm) hown hmmax37_0 hmmax37_1 hmmax37_2 hmmax37_3 (Nat.le_of_ble_eq_true rfl) (Nat.le_of_ble_eq_true rfl) (Nat.le_of_ble_eq_true rfl) (Nat.le_of_ble_eq_true rfl) dX6_makeRuns_15 ?_
  refine lv_topi (fun x_3 ex_3 => ?_)
  obtain rfl : x_3 = 4 := ex_3.trans (by decide)
  refine lv_istore (lv' := [(5, .int 4), (0, .ref t), (1, .ref bk), (2, .ref tp), (3, .ref w), (4, .ref r)]) hx hb dX6_makeRuns_18 hl (by decide) rfl (fun ls hl => ?_)
  refine lv_aload_n hx hb dX6_makeRuns_20 rfl (lv_at hl 4 rfl) ?_
  refine va_getN (D := (dC, dI)) (ci := 10) (v := .int 1) (C := RX8) (T := TX8) (N := 5) hx hb hts hiX8 hown hK hP k2 w2 rfl 1 (by decide) (nf_9 hG) (fun _ h9 => h9) rfl dX6_makeRuns_21 ?_
  refine lv_if_ne (tgt := 44) hx hb dX6_makeRuns_24 (by decide) (fun c_4 => ?_) (fun c_4 => absurd c_4 (by decide))
  refine lv_aload_n hx hb dX6_makeRuns_44 rfl (lv_at hl 4 rfl) ?_
  refine va_getN (D := (dC, dI)) (ci := 10) (v := .int 1) (C := RX8) (T := TX8) (N := 5) hx hb hts hiX8 hown hK hP k2 w2 rfl 1 (by decide) (nf_9 hG) (fun _ h9 => h9) rfl dX6_makeRuns_45 ?_
  refine lv_iconst (v := 1) hx hb dX6_makeRuns_48 (by decide) ?_
  refine lv_icmp_ne (tgt := 69) hx hb dX6_makeRuns_49 (by decide) (fun c_5 => absurd (by decide) c_5) (fun c_5 => ?_)
  refine lv_aload_n hx hb dX6_makeRuns_52 rfl (lv_at hl 1 rfl) ?_
  refine lv_aload_n hx hb dX6_makeRuns_53 rfl (lv_at hl 2 rfl) ?_
  refine lv_aload_n hx hb dX6_makeRuns_54 rfl (lv_at hl 3 rfl) ?_
  refine lv_aload_n hx hb dX6_makeRuns_55 rfl (lv_at hl 4 rfl) ?_
  refine va_getN (D := (dC, dI)) (ci := 10) (v := .int 0) (C := RX8) (T := TX8) (N := 5) hx hb hts hiX8 hown hK hP k2 w2 rfl 0 (by decide) (nf_5 hG) (fun _ h9 => h9) rfl dX6_makeRuns_56 ?_
  refine lv_iload hx hb dX6_makeRuns_59 (lv_at hl 0 rfl) ?_
  refine lv_aload hx hb dX6_makeRuns_61 (lv_at hl 5 rfl) ?_
  refine va_callv (va_runV (As := [.ref bk, .ref tp, .int 0, .int 4, .ref r]) (rest := []) ⟨hx, hb, hml, hown, hts⟩ (c_X6_makeByReplacement l dC dI g Wd t a b bk tp h r 0 k0 w0 k1 w1  H_1.size) (cwV 5 hts gX6_makeRuns_X6_makeByReplacement rfl rfl rfl (by decide +kernel) ⟨Nat.le_of_ble_eq_true rfl, Nat.le_of_ble_eq_true rfl⟩) ⟨PG_blind, va_recv hK hP (ci := 8) (q0 := k0) rfl w0, PG_call hK hG hS hP hD (A_all hD hA hS.1)⟩ rfl rfl hl.1 rfl (lv_room (Nat.le_of_ble_eq_true rfl)) dX6_makeRuns_63 ⟨Nat.le_of_ble_eq_true rfl, Nat.le_of_ble_eq_true rfl⟩) hS (fun q _ h => (A_all hD hA hS.1) q h) (A_all hD hA hS.1) (fun u_6 t_6 H_6 L_6 ht_6 hvm_6 hw_6 hB_6 hz_6 hk_6 hS => ?_)
  replace hB_6 := (show va_P (dC, dI) vwCl Wd t_6.heap from hB_6)
  rw [ht_6] at hB_6
  have hP := hB_6
  refine lv_goto (tgt := 81) hx hb dX6_makeRuns_66 (by decide) ?_
  exact W.vret hx hb hr (fun t ht hW => ⟨⟨(), rfl, trivial, P_at ht hP⟩, hS.F ht⟩) hS.2.2 dX6_makeRuns_81
set_option maxHeartbeats 4000000 in
set_option maxRecDepth 100000 in
theorem c_X6_makeRuns_2 (l : Launch) (dC : Nat → ClassId) (dI : Nat → Nat → Nat) (g : Nat → ClassId) (Wd : va_W) (t : Nat) (a : Nat) (b : Nat) (bk : Nat) (tp : Nat) (h : Nat) (w : Nat) (r : Nat) (ra : Nat) (rb : Nat) (rc : Nat) (mw : Int32) (k0 : Nat) (w0 : Wd[k0]? = some (t, .inr (8, [.ref a, .ref b, .int 0]))) (k1 : Nat) (w1 : Wd[k1]? = some (tp, .inr (11, [.ref h, .int 0]))) (k2 : Nat) (w2 : Wd[k2]? = some (w, .inr (10, [.int 0, .int 2, .int 4, .int mw, .int 2]))) (k3 : Nat) (w3 : Wd[k3]? = some (r, .inr (9, [.ref ra, .ref rb, .ref rc, .int 0, .int 0]))) (sz : Nat) : Met l yX6_makeRuns wsX6_makeRuns ({ frames := 1, cells := 0, slots := 0, locals := 27 }) (va_Pc [.ref t, .ref bk, .ref tp, .ref w, .ref r] (PG (dC, dI) g Wd sz)) (va_Qv (fun (_ : Unit) => True) (fun (_ : Unit) t => va_P (dC, dI) vwCl Wd t.heap) (va_A Wd sz)) 0 0 (va_A Wd sz) := by
  refine Met.ofW (cc := cX6_makeRuns) (maxL := 6) (ret := none) (by decide) rfl ?_
  intro p e s m args below meth c s₁ B hml hv
  obtain ⟨rfl, hsz, hP, hK, hD0, hG⟩ := hv
  have hx := B.exec
  have hb := B.bytes
  have hr := B.returns
  have hts := atoms_spec (ws := wsX6_makeRuns) B.pre
  have hown : s.vm.findClass RX6 = some m.cls := findClass_of_methodNamed B.named
  have hlocks := B.notSynchronized
  subst hsz
  have hD := hD0.self (sz := s.heap.size)
  generalize hAe : va_A Wd s.heap.size = A at hD hG ⊢
  have hA : ∀ q : Nat, s.heap.size ≤ q → A q := fun q h => by rw [← hAe]; exact Or.inr h
  have hS : va_S A s.heap s.heap [] := va_S.rf
  have hl := lv_entry ([.ref t, .ref bk, .ref tp, .ref w, .ref r]) (n := 6) (Nat.le_of_ble_eq_true rfl)
  rw [lg_entry_eq]
  generalize (lg_sl ([.ref t, .ref bk, .ref tp, .ref w, .ref r]) ++ List.replicate (6 - (lg_sl ([.ref t, .ref bk, .ref tp, .ref w, .ref r])).length) Slot.unset).toArray = ls at hl ⊢
  have hl : lv_has ls 6 [(0, .ref t), (1, .ref bk), (2, .ref tp), (3, .ref w), (4, .ref r)] := hl
  have hiX8 : ∀ w ∈ u_ws RX8 TX8 5, w ∈ wsX6_makeRuns := by decide +kernel
  have hmmin31_0 := hts (Cond.methodLink RX6 31 Lib.Math.min.name) (by decide +kernel)
  have hmmin31_1 := hts (Cond.static Lib.Math.min.name) (by decide +kernel)
  have hmmin31_2 := hts (Cond.initialized "java/lang/Math") (by decide +kernel)
  have hmmin31_3 := hts (Cond.code Lib.Math.min.name Lib.Math.min.code 2 (some .int)) (by decide +kernel)
  have hmmax37_0 := hts (Cond.methodLink RX6 37 Lib.Math.max.name) (by decide +kernel)
  have hmmax37_1 := hts (Cond.static Lib.Math.max.name) (by decide +kernel)
  have hmmax37_2 := hts (Cond.initialized "java/lang/Math") (by decide +kernel)
  have hmmax37_3 := hts (Cond.code Lib.Math.max.name Lib.Math.max.code 2 (some .int)) (by decide +kernel)
  refine lv_aload hx hb dX6_makeRuns_0 (lv_at hl 4 rfl) ?_
  refine va_callv (va_runV (As := []) (rest := []) ⟨hx, hb, hml, hown, hts⟩ (c_X7_empty l dC dI g Wd r ra rb rc k3 w3  s.heap.size) (cwV 0 hts gX6_makeRuns_X7_empty rfl rfl rfl (by decide +kernel) ⟨Nat.le_of_ble_eq_true rfl, Nat.le_of_ble_eq_true rfl⟩) ⟨PG_blind, va_recv hK hP (ci := 9) (q0 := k3) rfl w3, PG_call hK hG hS hP hD (A_all hD hA hS.1)⟩ rfl rfl hl.1 rfl (lv_room (Nat.le_of_ble_eq_true rfl)) dX6_makeRuns_2 ⟨Nat.le_of_ble_eq_true rfl, Nat.le_of_ble_eq_true rfl⟩) hS (fun q _ h => (A_all hD hA hS.1) q h) (A_all hD hA hS.1) (fun u_1 t_1 H_1 L_1 ht_1 hvm_1 hw_1 hB_1 hz_1 hk_1 hS => ?_)
  replace hB_1 := (show va_P (dC, dI) vwCl Wd t_1.heap from hB_1)
  rw [ht_1] at hB_1
  have hP := hB_1
  refine lv_iconst (v := 1) hx hb dX6_makeRuns_5 (by decide) ?_
  refine lv_aload_n hx hb dX6_makeRuns_6 rfl (lv_at hl 3 rfl) ?_
  refine va_getN (D := (dC, dI)) (ci := 10) (v := .int 4) (C := RX8) (T := TX8) (N := 5) hx hb hts hiX8 hown hK hP k2 w2 rfl 2 (by decide) (nf_13 hG) (fun _ h9 => h9) rfl dX6_makeRuns_7 ?_
  refine lv_bipush (v := 50) hx hb dX6_makeRuns_10 (by decide) ?_
  refine va_mmin hx hb (hml.trans hl.1.symm) hown hmmin31_0 hmmin31_1 hmmin31_2 hmmin31_3 (Nat.le_of_ble_eq_true rfl) (Nat.le_of_ble_eq_true rfl) (Nat.le_of_ble_eq_true rfl) (Nat.le_of_ble_eq_true rfl) dX6_makeRuns_12 ?_
  refine lv_topi (fun x_2 ex_2 => ?_)
  obtain rfl : x_2 = 4 := ex_2.trans (by decide)
  refine va_mmax hx hb (hml.trans hl.1.symm) hown hmmax37_0 hmmax37_1 hmmax37_2 hmmax37_3 (Nat.le_of_ble_eq_true rfl) (Nat.le_of_ble_eq_true rfl) (Nat.le_of_ble_eq_true rfl) (Nat.le_of_ble_eq_true rfl) dX6_makeRuns_15 ?_
  refine lv_topi (fun x_3 ex_3 => ?_)
  obtain rfl : x_3 = 4 := ex_3.trans (by decide)
  refine lv_istore (lv' := [(5, .int 4), (0, .ref t), (1, .ref bk), (2, .ref tp), (3, .ref w), (4, .ref r)]) hx hb dX6_makeRuns_18 hl (by decide) rfl (fun ls hl => ?_)
  refine lv_aload_n hx hb dX6_makeRuns_20 rfl (lv_at hl 4 rfl) ?_
  refine va_getN (D := (dC, dI)) (ci := 10) (v := .int 2) (C := RX8) (T := TX8) (N := 5) hx hb hts hiX8 hown hK hP k2 w2 rfl 1 (by decide) (nf_9 hG) (fun _ h9 => h9) rfl dX6_makeRuns_21 ?_
  refine lv_if_ne (tgt := 44) hx hb dX6_makeRuns_24 (by decide) (fun c_4 => ?_) (fun c_4 => absurd c_4 (by decide))
  refine lv_aload_n hx hb dX6_makeRuns_44 rfl (lv_at hl 4 rfl) ?_
  refine va_getN (D := (dC, dI)) (ci := 10) (v := .int 2) (C := RX8) (T := TX8) (N := 5) hx hb hts hiX8 hown hK hP k2 w2 rfl 1 (by decide) (nf_9 hG) (fun _ h9 => h9) rfl dX6_makeRuns_45 ?_
  refine lv_iconst (v := 1) hx hb dX6_makeRuns_48 (by decide) ?_
  refine lv_icmp_ne (tgt := 69) hx hb dX6_makeRuns_49 (by decide) (fun c_5 => ?_) (fun c_5 => absurd c_5 (by decide))
  refine lv_aload_n hx hb dX6_makeRuns_69 rfl (lv_at hl 1 rfl) ?_
  refine lv_aload_n hx hb dX6_makeRuns_70 rfl (lv_at hl 2 rfl) ?_
  refine lv_aload_n hx hb dX6_makeRuns_71 rfl (lv_at hl 3 rfl) ?_
  refine lv_aload_n hx hb dX6_makeRuns_72 rfl (lv_at hl 4 rfl) ?_
  refine va_getN (D := (dC, dI)) (ci := 10) (v := .int 0) (C := RX8) (T := TX8) (N := 5) hx hb hts hiX8 hown hK hP k2 w2 rfl 0 (by decide) (nf_5 hG) (fun _ h9 => h9) rfl dX6_makeRuns_73 ?_
  refine lv_aload hx hb dX6_makeRuns_76 (lv_at hl 5 rfl) ?_
  refine va_callv (va_runV (As := [.ref bk, .ref tp, .int 0, .ref r]) (rest := []) ⟨hx, hb, hml, hown, hts⟩ (c_X6_makeNatural l dC dI g Wd t bk tp h r 0 k1 w1  H_1.size) (cwV 4 hts gX6_makeRuns_X6_makeNatural rfl rfl rfl (by decide +kernel) ⟨Nat.le_of_ble_eq_true rfl, Nat.le_of_ble_eq_true rfl⟩) ⟨PG_blind, va_recv hK hP (ci := 8) (q0 := k0) rfl w0, PG_call hK hG hS hP hD (A_all hD hA hS.1)⟩ rfl rfl hl.1 rfl (lv_room (Nat.le_of_ble_eq_true rfl)) dX6_makeRuns_78 ⟨Nat.le_of_ble_eq_true rfl, Nat.le_of_ble_eq_true rfl⟩) hS (fun q _ h => (A_all hD hA hS.1) q h) (A_all hD hA hS.1) (fun u_6 t_6 H_6 L_6 ht_6 hvm_6 hw_6 hB_6 hz_6 hk_6 hS => ?_)
  replace hB_6 := (show va_P (dC, dI) vwCl Wd t_6.heap from hB_6)
  rw [ht_6] at hB_6
  have hP := hB_6
  exact W.vret hx hb hr (fun t ht hW => ⟨⟨(), rfl, trivial, P_at ht hP⟩, hS.F ht⟩) hS.2.2 dX6_makeRuns_81
set_option maxHeartbeats 4000000 in
set_option maxRecDepth 100000 in
theorem c_X3_arrange_0 (l : Launch) (dC : Nat → ClassId) (dI : Nat → Nat → Nat) (g : Nat → ClassId) (Wd : va_W) (t : Nat) (a : Nat) (b : Nat) (w : Nat) (rw : Int32) (k0 : Nat) (w0 : Wd[k0]? = some (t, .inr (5, [.ref a, .ref b, .int 0, .int 2, .int 0, .int 0]))) (k1 : Nat) (w1 : Wd[k1]? = some (w, .inr (10, [.int 0, .int rw, .int 4, .int 0, .int 2]))) (sz : Nat) : Met l yX3_arrange wsX3_arrange ({ frames := 1, cells := 0, slots := 0, locals := 15 }) (va_Pc [.ref t, .ref w, .int 0] (PG (dC, dI) g Wd sz)) (va_Qi (fun (r : Int32) (_ : Unit) => r = 0) (fun (_ : Unit) t => va_P (dC, dI) vwCl Wd t.heap) (va_A Wd sz)) 0 0 (va_A Wd sz) := by
  refine Met.ofW (cc := cX3_arrange) (maxL := 4) (ret := (some .int)) (by decide) rfl ?_
  intro p e s m args below meth c s₁ B hml hv
  obtain ⟨rfl, hsz, hP, hK, hD0, hG⟩ := hv
  have hx := B.exec
  have hb := B.bytes
  have hr := B.returns
  have hts := atoms_spec (ws := wsX3_arrange) B.pre
  have hown : s.vm.findClass RX3 = some m.cls := findClass_of_methodNamed B.named
  have hlocks := B.notSynchronized
  subst hsz
  have hD := hD0.self (sz := s.heap.size)
  generalize hAe : va_A Wd s.heap.size = A at hD hG ⊢
  have hA : ∀ q : Nat, s.heap.size ≤ q → A q := fun q h => by rw [← hAe]; exact Or.inr h
  have hS : va_S A s.heap s.heap [] := va_S.rf
  have hl := lv_entry ([.ref t, .ref w, .int 0]) (n := 4) (Nat.le_of_ble_eq_true rfl)
  rw [lg_entry_eq]
  generalize (lg_sl ([.ref t, .ref w, .int 0]) ++ List.replicate (4 - (lg_sl ([.ref t, .ref w, .int 0])).length) Slot.unset).toArray = ls at hl ⊢
  have hl : lv_has ls 4 [(0, .ref t), (1, .ref w), (2, .int 0)] := hl
  have hiX8 : ∀ w ∈ u_ws RX8 TX8 5, w ∈ wsX3_arrange := by decide +kernel
  have hf18 := hts (Cond.fieldLink RX3 18 "RunmergeOffice$Pass" "way" "I") (by decide +kernel)
  have hiX3 : ∀ w ∈ u_ws RX3 TX3 6, w ∈ wsX3_arrange := by decide +kernel
  have hmmin37_0 := hts (Cond.methodLink RX3 37 Lib.Math.min.name) (by decide +kernel)
  have hmmin37_1 := hts (Cond.static Lib.Math.min.name) (by decide +kernel)
  have hmmin37_2 := hts (Cond.initialized "java/lang/Math") (by decide +kernel)
  have hmmin37_3 := hts (Cond.code Lib.Math.min.name Lib.Math.min.code 2 (some .int)) (by decide +kernel)
  have hmmax43_0 := hts (Cond.methodLink RX3 43 Lib.Math.max.name) (by decide +kernel)
  have hmmax43_1 := hts (Cond.static Lib.Math.max.name) (by decide +kernel)
  have hmmax43_2 := hts (Cond.initialized "java/lang/Math") (by decide +kernel)
  have hmmax43_3 := hts (Cond.code Lib.Math.max.name Lib.Math.max.code 2 (some .int)) (by decide +kernel)
  have hf22 := hts (Cond.fieldLink RX3 22 "RunmergeOffice$Pass" "ways" "I") (by decide +kernel)
  have hf28 := hts (Cond.fieldLink RX3 28 "RunmergeOffice$Pass" "level" "I") (by decide +kernel)
  have hf25 := hts (Cond.fieldLink RX3 25 "RunmergeOffice$Pass" "merges" "I") (by decide +kernel)
  refine lv_aload_n hx hb dX3_arrange_0 rfl (lv_at hl 0 rfl) ?_
  refine lv_aload_n hx hb dX3_arrange_1 rfl (lv_at hl 1 rfl) ?_
  refine va_getN (D := (dC, dI)) (ci := 10) (v := .int 0) (C := RX8) (T := TX8) (N := 5) hx hb hts hiX8 hown hK hP k1 w1 rfl 3 (by decide) (nf_17 hG) (fun _ h9 => h9) rfl dX3_arrange_2 ?_
  refine va_putS (D := (dC, dI)) (ci := 5) (v := .int 0) (ty := .int) (C := RX3) (T := TX3) (N := 6) hx hb hts hiX3 tyX3 tyX3_ok nmX3 hown hK hP hD hS k0 w0 rfl 2 (by decide) hf18 (fun _ h9 => h9) rfl (by decide +kernel) rfl rfl (Nat.le_of_ble_eq_true rfl) rfl dX3_arrange_5 (fun H_1 L_2 hP hS => ?_)
  refine lv_aload_n hx hb dX3_arrange_8 rfl (lv_at hl 0 rfl) ?_
  refine lv_iconst (v := 2) hx hb dX3_arrange_9 (by decide) ?_
  refine lv_aload_n hx hb dX3_arrange_10 rfl (lv_at hl 1 rfl) ?_
  refine va_getN (D := (dC, dI)) (ci := 10) (v := .int 2) (C := RX8) (T := TX8) (N := 5) hx hb hts hiX8 hown hK hP k1 w1 rfl 4 (by decide) (nf_21 hG) (fun _ h9 => h9) rfl dX3_arrange_11 ?_
  refine lv_bipush (v := 6) hx hb dX3_arrange_14 (by decide) ?_
  refine va_mmin hx hb (hml.trans hl.1.symm) hown hmmin37_0 hmmin37_1 hmmin37_2 hmmin37_3 (Nat.le_of_ble_eq_true rfl) (Nat.le_of_ble_eq_true rfl) (Nat.le_of_ble_eq_true rfl) (Nat.le_of_ble_eq_true rfl) dX3_arrange_16 ?_
  refine lv_topi (fun x_3 ex_3 => ?_)
  obtain rfl : x_3 = 2 := ex_3.trans (by decide)
  refine va_mmax hx hb (hml.trans hl.1.symm) hown hmmax43_0 hmmax43_1 hmmax43_2 hmmax43_3 (Nat.le_of_ble_eq_true rfl) (Nat.le_of_ble_eq_true rfl) (Nat.le_of_ble_eq_true rfl) (Nat.le_of_ble_eq_true rfl) dX3_arrange_19 ?_
  refine lv_topi (fun x_4 ex_4 => ?_)
  obtain rfl : x_4 = 2 := ex_4.trans (by decide)
  refine va_putS (D := (dC, dI)) (ci := 5) (v := .int 2) (ty := .int) (C := RX3) (T := TX3) (N := 6) hx hb hts hiX3 tyX3 tyX3_ok nmX3 hown hK hP hD hS k0 w0 rfl 3 (by decide) hf22 (fun _ h9 => h9) rfl (by decide +kernel) rfl rfl (Nat.le_of_ble_eq_true rfl) rfl dX3_arrange_22 (fun H_5 L_6 hP hS => ?_)
  refine lv_aload_n hx hb dX3_arrange_25 rfl (lv_at hl 0 rfl) ?_
  refine lv_iconst (v := 0) hx hb dX3_arrange_26 (by decide) ?_
  refine va_putS (D := (dC, dI)) (ci := 5) (v := .int 0) (ty := .int) (C := RX3) (T := TX3) (N := 6) hx hb hts hiX3 tyX3 tyX3_ok nmX3 hown hK hP hD hS k0 w0 rfl 5 (by decide) hf28 (fun _ h9 => h9) rfl (by decide +kernel) rfl rfl (Nat.le_of_ble_eq_true rfl) rfl dX3_arrange_27 (fun H_7 L_8 hP hS => ?_)
  refine lv_aload_n hx hb dX3_arrange_30 rfl (lv_at hl 0 rfl) ?_
  refine lv_iconst (v := 0) hx hb dX3_arrange_31 (by decide) ?_
  refine va_putS (D := (dC, dI)) (ci := 5) (v := .int 0) (ty := .int) (C := RX3) (T := TX3) (N := 6) hx hb hts hiX3 tyX3 tyX3_ok nmX3 hown hK hP hD hS k0 w0 rfl 4 (by decide) hf25 (fun _ h9 => h9) rfl (by decide +kernel) rfl rfl (Nat.le_of_ble_eq_true rfl) rfl dX3_arrange_32 (fun H_9 L_10 hP hS => ?_)
  refine lv_aload_n hx hb dX3_arrange_35 rfl (lv_at hl 0 rfl) ?_
  refine va_get (D := (dC, dI)) (ci := 5) (v := .int 0) (C := RX3) (T := TX3) (N := 6) hx hb hts hiX3 hown hK hP k0 w0 rfl 2 (by decide) hf18 (fun _ h9 => h9) rfl dX3_arrange_36 ?_
  refine lv_iconst (v := 2) hx hb dX3_arrange_39 (by decide) ?_
  refine lv_icmp_ne (tgt := 47) hx hb dX3_arrange_40 (by decide) (fun c_11 => ?_) (fun c_11 => absurd c_11 (by decide))
  refine lv_iload_n hx hb dX3_arrange_47 rfl (lv_at hl 2 rfl) ?_
  exact W.iret (v := 0) hx hb hr (fun t ht hW => ⟨⟨0, (), rfl, rfl, P_at ht hP⟩, hS.F ht⟩) hS.2.2 dX3_arrange_48
set_option maxHeartbeats 4000000 in
set_option maxRecDepth 100000 in
theorem c_X3_arrange_1 (l : Launch) (dC : Nat → ClassId) (dI : Nat → Nat → Nat) (g : Nat → ClassId) (Wd : va_W) (t : Nat) (a : Nat) (b : Nat) (w : Nat) (rw : Int32) (k0 : Nat) (w0 : Wd[k0]? = some (t, .inr (5, [.ref a, .ref b, .int 1, .int 2, .int 0, .int 0]))) (k1 : Nat) (w1 : Wd[k1]? = some (w, .inr (10, [.int 0, .int rw, .int 4, .int 1, .int 2]))) (sz : Nat) : Met l yX3_arrange wsX3_arrange ({ frames := 1, cells := 0, slots := 0, locals := 15 }) (va_Pc [.ref t, .ref w, .int 0] (PG (dC, dI) g Wd sz)) (va_Qi (fun (r : Int32) (_ : Unit) => r = 0) (fun (_ : Unit) t => va_P (dC, dI) vwCl Wd t.heap) (va_A Wd sz)) 0 0 (va_A Wd sz) := by
  refine Met.ofW (cc := cX3_arrange) (maxL := 4) (ret := (some .int)) (by decide) rfl ?_
  intro p e s m args below meth c s₁ B hml hv
  obtain ⟨rfl, hsz, hP, hK, hD0, hG⟩ := hv
  have hx := B.exec
  have hb := B.bytes
  have hr := B.returns
  have hts := atoms_spec (ws := wsX3_arrange) B.pre
  have hown : s.vm.findClass RX3 = some m.cls := findClass_of_methodNamed B.named
  have hlocks := B.notSynchronized
  subst hsz
  have hD := hD0.self (sz := s.heap.size)
  generalize hAe : va_A Wd s.heap.size = A at hD hG ⊢
  have hA : ∀ q : Nat, s.heap.size ≤ q → A q := fun q h => by rw [← hAe]; exact Or.inr h
  have hS : va_S A s.heap s.heap [] := va_S.rf
  have hl := lv_entry ([.ref t, .ref w, .int 0]) (n := 4) (Nat.le_of_ble_eq_true rfl)
  rw [lg_entry_eq]
  generalize (lg_sl ([.ref t, .ref w, .int 0]) ++ List.replicate (4 - (lg_sl ([.ref t, .ref w, .int 0])).length) Slot.unset).toArray = ls at hl ⊢
  have hl : lv_has ls 4 [(0, .ref t), (1, .ref w), (2, .int 0)] := hl
  have hiX8 : ∀ w ∈ u_ws RX8 TX8 5, w ∈ wsX3_arrange := by decide +kernel
  have hf18 := hts (Cond.fieldLink RX3 18 "RunmergeOffice$Pass" "way" "I") (by decide +kernel)
  have hiX3 : ∀ w ∈ u_ws RX3 TX3 6, w ∈ wsX3_arrange := by decide +kernel
  have hmmin37_0 := hts (Cond.methodLink RX3 37 Lib.Math.min.name) (by decide +kernel)
  have hmmin37_1 := hts (Cond.static Lib.Math.min.name) (by decide +kernel)
  have hmmin37_2 := hts (Cond.initialized "java/lang/Math") (by decide +kernel)
  have hmmin37_3 := hts (Cond.code Lib.Math.min.name Lib.Math.min.code 2 (some .int)) (by decide +kernel)
  have hmmax43_0 := hts (Cond.methodLink RX3 43 Lib.Math.max.name) (by decide +kernel)
  have hmmax43_1 := hts (Cond.static Lib.Math.max.name) (by decide +kernel)
  have hmmax43_2 := hts (Cond.initialized "java/lang/Math") (by decide +kernel)
  have hmmax43_3 := hts (Cond.code Lib.Math.max.name Lib.Math.max.code 2 (some .int)) (by decide +kernel)
  have hf22 := hts (Cond.fieldLink RX3 22 "RunmergeOffice$Pass" "ways" "I") (by decide +kernel)
  have hf28 := hts (Cond.fieldLink RX3 28 "RunmergeOffice$Pass" "level" "I") (by decide +kernel)
  have hf25 := hts (Cond.fieldLink RX3 25 "RunmergeOffice$Pass" "merges" "I") (by decide +kernel)
  refine lv_aload_n hx hb dX3_arrange_0 rfl (lv_at hl 0 rfl) ?_
  refine lv_aload_n hx hb dX3_arrange_1 rfl (lv_at hl 1 rfl) ?_
  refine va_getN (D := (dC, dI)) (ci := 10) (v := .int 1) (C := RX8) (T := TX8) (N := 5) hx hb hts hiX8 hown hK hP k1 w1 rfl 3 (by decide) (nf_17 hG) (fun _ h9 => h9) rfl dX3_arrange_2 ?_
  refine va_putS (D := (dC, dI)) (ci := 5) (v := .int 1) (ty := .int) (C := RX3) (T := TX3) (N := 6) hx hb hts hiX3 tyX3 tyX3_ok nmX3 hown hK hP hD hS k0 w0 rfl 2 (by decide) hf18 (fun _ h9 => h9) rfl (by decide +kernel) rfl rfl (Nat.le_of_ble_eq_true rfl) rfl dX3_arrange_5 (fun H_1 L_2 hP hS => ?_)
  refine lv_aload_n hx hb dX3_arrange_8 rfl (lv_at hl 0 rfl) ?_
  refine lv_iconst (v := 2) hx hb dX3_arrange_9 (by decide) ?_
  refine lv_aload_n hx hb dX3_arrange_10 rfl (lv_at hl 1 rfl) ?_
  refine va_getN (D := (dC, dI)) (ci := 10) (v := .int 2) (C := RX8) (T := TX8) (N := 5) hx hb hts hiX8 hown hK hP k1 w1 rfl 4 (by decide) (nf_21 hG) (fun _ h9 => h9) rfl dX3_arrange_11 ?_
  refine lv_bipush (v := 6) hx hb dX3_arrange_14 (by decide) ?_
  refine va_mmin hx hb (hml.trans hl.1.symm) hown hmmin37_0 hmmin37_1 hmmin37_2 hmmin37_3 (Nat.le_of_ble_eq_true rfl) (Nat.le_of_ble_eq_true rfl) (Nat.le_of_ble_eq_true rfl) (Nat.le_of_ble_eq_true rfl) dX3_arrange_16 ?_
  refine lv_topi (fun x_3 ex_3 => ?_)
  obtain rfl : x_3 = 2 := ex_3.trans (by decide)
  refine va_mmax hx hb (hml.trans hl.1.symm) hown hmmax43_0 hmmax43_1 hmmax43_2 hmmax43_3 (Nat.le_of_ble_eq_true rfl) (Nat.le_of_ble_eq_true rfl) (Nat.le_of_ble_eq_true rfl) (Nat.le_of_ble_eq_true rfl) dX3_arrange_19 ?_
  refine lv_topi (fun x_4 ex_4 => ?_)
  obtain rfl : x_4 = 2 := ex_4.trans (by decide)
  refine va_putS (D := (dC, dI)) (ci := 5) (v := .int 2) (ty := .int) (C := RX3) (T := TX3) (N := 6) hx hb hts hiX3 tyX3 tyX3_ok nmX3 hown hK hP hD hS k0 w0 rfl 3 (by decide) hf22 (fun _ h9 => h9) rfl (by decide +kernel) rfl rfl (Nat.le_of_ble_eq_true rfl) rfl dX3_arrange_22 (fun H_5 L_6 hP hS => ?_)
  refine lv_aload_n hx hb dX3_arrange_25 rfl (lv_at hl 0 rfl) ?_
  refine lv_iconst (v := 0) hx hb dX3_arrange_26 (by decide) ?_
  refine va_putS (D := (dC, dI)) (ci := 5) (v := .int 0) (ty := .int) (C := RX3) (T := TX3) (N := 6) hx hb hts hiX3 tyX3 tyX3_ok nmX3 hown hK hP hD hS k0 w0 rfl 5 (by decide) hf28 (fun _ h9 => h9) rfl (by decide +kernel) rfl rfl (Nat.le_of_ble_eq_true rfl) rfl dX3_arrange_27 (fun H_7 L_8 hP hS => ?_)
  refine lv_aload_n hx hb dX3_arrange_30 rfl (lv_at hl 0 rfl) ?_
  refine lv_iconst (v := 0) hx hb dX3_arrange_31 (by decide) ?_
  refine va_putS (D := (dC, dI)) (ci := 5) (v := .int 0) (ty := .int) (C := RX3) (T := TX3) (N := 6) hx hb hts hiX3 tyX3 tyX3_ok nmX3 hown hK hP hD hS k0 w0 rfl 4 (by decide) hf25 (fun _ h9 => h9) rfl (by decide +kernel) rfl rfl (Nat.le_of_ble_eq_true rfl) rfl dX3_arrange_32 (fun H_9 L_10 hP hS => ?_)
  refine lv_aload_n hx hb dX3_arrange_35 rfl (lv_at hl 0 rfl) ?_
  refine va_get (D := (dC, dI)) (ci := 5) (v := .int 1) (C := RX3) (T := TX3) (N := 6) hx hb hts hiX3 hown hK hP k0 w0 rfl 2 (by decide) hf18 (fun _ h9 => h9) rfl dX3_arrange_36 ?_
  refine lv_iconst (v := 2) hx hb dX3_arrange_39 (by decide) ?_
  refine lv_icmp_ne (tgt := 47) hx hb dX3_arrange_40 (by decide) (fun c_11 => ?_) (fun c_11 => absurd c_11 (by decide))
  refine lv_iload_n hx hb dX3_arrange_47 rfl (lv_at hl 2 rfl) ?_
  exact W.iret (v := 0) hx hb hr (fun t ht hW => ⟨⟨0, (), rfl, rfl, P_at ht hP⟩, hS.F ht⟩) hS.2.2 dX3_arrange_48
set_option maxHeartbeats 4000000 in
set_option maxRecDepth 100000 in
theorem c_X3_arrange_2 (l : Launch) (dC : Nat → ClassId) (dI : Nat → Nat → Nat) (g : Nat → ClassId) (Wd : va_W) (t : Nat) (a : Nat) (b : Nat) (w : Nat) (rw : Int32) (k0 : Nat) (w0 : Wd[k0]? = some (t, .inr (5, [.ref a, .ref b, .int 2, .int 2, .int 0, .int 0]))) (k1 : Nat) (w1 : Wd[k1]? = some (w, .inr (10, [.int 0, .int rw, .int 4, .int 2, .int 2]))) (sz : Nat) : Met l yX3_arrange wsX3_arrange ({ frames := 1, cells := 0, slots := 0, locals := 15 }) (va_Pc [.ref t, .ref w, .int 0] (PG (dC, dI) g Wd sz)) (va_Qi (fun (r : Int32) (_ : Unit) => r = 0) (fun (_ : Unit) t => va_P (dC, dI) vwCl Wd t.heap) (va_A Wd sz)) 0 0 (va_A Wd sz) := by
  refine Met.ofW (cc := cX3_arrange) (maxL := 4) (ret := (some .int)) (by decide) rfl ?_
  intro p e s m args below meth c s₁ B hml hv
  obtain ⟨rfl, hsz, hP, hK, hD0, hG⟩ := hv
  have hx := B.exec
  have hb := B.bytes
  have hr := B.returns
  have hts := atoms_spec (ws := wsX3_arrange) B.pre
  have hown : s.vm.findClass RX3 = some m.cls := findClass_of_methodNamed B.named
  have hlocks := B.notSynchronized
  subst hsz
  have hD := hD0.self (sz := s.heap.size)
  generalize hAe : va_A Wd s.heap.size = A at hD hG ⊢
  have hA : ∀ q : Nat, s.heap.size ≤ q → A q := fun q h => by rw [← hAe]; exact Or.inr h
  have hS : va_S A s.heap s.heap [] := va_S.rf
  have hl := lv_entry ([.ref t, .ref w, .int 0]) (n := 4) (Nat.le_of_ble_eq_true rfl)
  rw [lg_entry_eq]
  generalize (lg_sl ([.ref t, .ref w, .int 0]) ++ List.replicate (4 - (lg_sl ([.ref t, .ref w, .int 0])).length) Slot.unset).toArray = ls at hl ⊢
  have hl : lv_has ls 4 [(0, .ref t), (1, .ref w), (2, .int 0)] := hl
  have hiX8 : ∀ w ∈ u_ws RX8 TX8 5, w ∈ wsX3_arrange := by decide +kernel
  have hf18 := hts (Cond.fieldLink RX3 18 "RunmergeOffice$Pass" "way" "I") (by decide +kernel)
  have hiX3 : ∀ w ∈ u_ws RX3 TX3 6, w ∈ wsX3_arrange := by decide +kernel
  have hmmin37_0 := hts (Cond.methodLink RX3 37 Lib.Math.min.name) (by decide +kernel)
  have hmmin37_1 := hts (Cond.static Lib.Math.min.name) (by decide +kernel)
  have hmmin37_2 := hts (Cond.initialized "java/lang/Math") (by decide +kernel)
  have hmmin37_3 := hts (Cond.code Lib.Math.min.name Lib.Math.min.code 2 (some .int)) (by decide +kernel)
  have hmmax43_0 := hts (Cond.methodLink RX3 43 Lib.Math.max.name) (by decide +kernel)
  have hmmax43_1 := hts (Cond.static Lib.Math.max.name) (by decide +kernel)
  have hmmax43_2 := hts (Cond.initialized "java/lang/Math") (by decide +kernel)
  have hmmax43_3 := hts (Cond.code Lib.Math.max.name Lib.Math.max.code 2 (some .int)) (by decide +kernel)
  have hf22 := hts (Cond.fieldLink RX3 22 "RunmergeOffice$Pass" "ways" "I") (by decide +kernel)
  have hf28 := hts (Cond.fieldLink RX3 28 "RunmergeOffice$Pass" "level" "I") (by decide +kernel)
  have hf25 := hts (Cond.fieldLink RX3 25 "RunmergeOffice$Pass" "merges" "I") (by decide +kernel)
  refine lv_aload_n hx hb dX3_arrange_0 rfl (lv_at hl 0 rfl) ?_
  refine lv_aload_n hx hb dX3_arrange_1 rfl (lv_at hl 1 rfl) ?_
  refine va_getN (D := (dC, dI)) (ci := 10) (v := .int 2) (C := RX8) (T := TX8) (N := 5) hx hb hts hiX8 hown hK hP k1 w1 rfl 3 (by decide) (nf_17 hG) (fun _ h9 => h9) rfl dX3_arrange_2 ?_
  refine va_putS (D := (dC, dI)) (ci := 5) (v := .int 2) (ty := .int) (C := RX3) (T := TX3) (N := 6) hx hb hts hiX3 tyX3 tyX3_ok nmX3 hown hK hP hD hS k0 w0 rfl 2 (by decide) hf18 (fun _ h9 => h9) rfl (by decide +kernel) rfl rfl (Nat.le_of_ble_eq_true rfl) rfl dX3_arrange_5 (fun H_1 L_2 hP hS => ?_)
  refine lv_aload_n hx hb dX3_arrange_8 rfl (lv_at hl 0 rfl) ?_
  refine lv_iconst (v := 2) hx hb dX3_arrange_9 (by decide) ?_
  refine lv_aload_n hx hb dX3_arrange_10 rfl (lv_at hl 1 rfl) ?_
  refine va_getN (D := (dC, dI)) (ci := 10) (v := .int 2) (C := RX8) (T := TX8) (N := 5) hx hb hts hiX8 hown hK hP k1 w1 rfl 4 (by decide) (nf_21 hG) (fun _ h9 => h9) rfl dX3_arrange_11 ?_
  refine lv_bipush (v := 6) hx hb dX3_arrange_14 (by decide) ?_
  refine va_mmin hx hb (hml.trans hl.1.symm) hown hmmin37_0 hmmin37_1 hmmin37_2 hmmin37_3 (Nat.le_of_ble_eq_true rfl) (Nat.le_of_ble_eq_true rfl) (Nat.le_of_ble_eq_true rfl) (Nat.le_of_ble_eq_true rfl) dX3_arrange_16 ?_
  refine lv_topi (fun x_3 ex_3 => ?_)
  obtain rfl : x_3 = 2 := ex_3.trans (by decide)
  refine va_mmax hx hb (hml.trans hl.1.symm) hown hmmax43_0 hmmax43_1 hmmax43_2 hmmax43_3 (Nat.le_of_ble_eq_true rfl) (Nat.le_of_ble_eq_true rfl) (Nat.le_of_ble_eq_true rfl) (Nat.le_of_ble_eq_true rfl) dX3_arrange_19 ?_
  refine lv_topi (fun x_4 ex_4 => ?_)
  obtain rfl : x_4 = 2 := ex_4.trans (by decide)
  refine va_putS (D := (dC, dI)) (ci := 5) (v := .int 2) (ty := .int) (C := RX3) (T := TX3) (N := 6) hx hb hts hiX3 tyX3 tyX3_ok nmX3 hown hK hP hD hS k0 w0 rfl 3 (by decide) hf22 (fun _ h9 => h9) rfl (by decide +kernel) rfl rfl (Nat.le_of_ble_eq_true rfl) rfl dX3_arrange_22 (fun H_5 L_6 hP hS => ?_)
  refine lv_aload_n hx hb dX3_arrange_25 rfl (lv_at hl 0 rfl) ?_
  refine lv_iconst (v := 0) hx hb dX3_arrange_26 (by decide) ?_
  refine va_putS (D := (dC, dI)) (ci := 5) (v := .int 0) (ty := .int) (C := RX3) (T := TX3) (N := 6) hx hb hts hiX3 tyX3 tyX3_ok nmX3 hown hK hP hD hS k0 w0 rfl 5 (by decide) hf28 (fun _ h9 => h9) rfl (by decide +kernel) rfl rfl (Nat.le_of_ble_eq_true rfl) rfl dX3_arrange_27 (fun H_7 L_8 hP hS => ?_)
  refine lv_aload_n hx hb dX3_arrange_30 rfl (lv_at hl 0 rfl) ?_
  refine lv_iconst (v := 0) hx hb dX3_arrange_31 (by decide) ?_
  refine va_putS (D := (dC, dI)) (ci := 5) (v := .int 0) (ty := .int) (C := RX3) (T := TX3) (N := 6) hx hb hts hiX3 tyX3 tyX3_ok nmX3 hown hK hP hD hS k0 w0 rfl 4 (by decide) hf25 (fun _ h9 => h9) rfl (by decide +kernel) rfl rfl (Nat.le_of_ble_eq_true rfl) rfl dX3_arrange_32 (fun H_9 L_10 hP hS => ?_)
  refine lv_aload_n hx hb dX3_arrange_35 rfl (lv_at hl 0 rfl) ?_
  refine va_get (D := (dC, dI)) (ci := 5) (v := .int 2) (C := RX3) (T := TX3) (N := 6) hx hb hts hiX3 hown hK hP k0 w0 rfl 2 (by decide) hf18 (fun _ h9 => h9) rfl dX3_arrange_36 ?_
  refine lv_iconst (v := 2) hx hb dX3_arrange_39 (by decide) ?_
  refine lv_icmp_ne (tgt := 47) hx hb dX3_arrange_40 (by decide) (fun c_11 => absurd (by decide) c_11) (fun c_11 => ?_)
  refine lv_iload_n hx hb dX3_arrange_43 rfl (lv_at hl 2 rfl) ?_
  refine lv_if_ne (tgt := 49) hx hb dX3_arrange_44 (by decide) (fun c_12 => absurd (by decide) c_12) (fun c_12 => ?_)
  refine lv_iload_n hx hb dX3_arrange_47 rfl (lv_at hl 2 rfl) ?_
  exact W.iret (v := 0) hx hb hr (fun t ht hW => ⟨⟨0, (), rfl, rfl, P_at ht hP⟩, hS.F ht⟩) hS.2.2 dX3_arrange_48
set_option maxHeartbeats 4000000 in
set_option maxRecDepth 100000 in
theorem c_X2_isOver (l : Launch) (dC : Nat → ClassId) (dI : Nat → Nat → Nat) (g : Nat → ClassId) (Wd : va_W) (t : Nat) (mk : Nat) (pa : Nat) (ii : Nat) (pl : Nat) (now : Nat) (made : Nat) (nx : Nat) (na : Nat) (nb : Nat) (nc : Nat) (to : Int32) (k0 : Nat) (w0 : Wd[k0]? = some (t, .inr (4, [.ref mk, .ref pa, .ref ii, .ref pl, .int 0, .ref now, .ref made, .ref nx, .int to, .int 0, .int 0, .int 0, .int 0, .int 0, .int 0]))) (k1 : Nat) (w1 : Wd[k1]? = some (now, .inr (9, [.ref na, .ref nb, .ref nc, .int 0, .int 0]))) (sz : Nat) : Met l yX2_isOver wsX2_isOver ({ frames := 0, cells := 0, slots := 0, locals := 0 }) (va_Pc [.ref t] (PG (dC, dI) g Wd sz)) (va_Qi (fun (r : Int32) (_ : Unit) => r = 1) (fun (_ : Unit) t => va_P (dC, dI) vwCl Wd t.heap) (va_A Wd sz)) 0 0 (va_A Wd sz) := by
  refine Met.ofW (cc := cX2_isOver) (maxL := 1) (ret := (some .boolean)) (by decide) rfl ?_
  intro p e s m args below meth c s₁ B hml hv
  obtain ⟨rfl, hsz, hP, hK, hD0, hG⟩ := hv
  have hx := B.exec
  have hb := B.bytes
  have hr := B.returns
  have hts := atoms_spec (ws := wsX2_isOver) B.pre
  have hown : s.vm.findClass RX2 = some m.cls := findClass_of_methodNamed B.named
  have hlocks := B.notSynchronized
  subst hsz
  have hD := hD0.self (sz := s.heap.size)
  generalize hAe : va_A Wd s.heap.size = A at hD hG ⊢
  have hA : ∀ q : Nat, s.heap.size ≤ q → A q := fun q h => by rw [← hAe]; exact Or.inr h
  have hS : va_S A s.heap s.heap [] := va_S.rf
  have hl := lv_entry ([.ref t]) (n := 1) (Nat.le_of_ble_eq_true rfl)
  rw [lg_entry_eq]
  generalize (lg_sl ([.ref t]) ++ List.replicate (1 - (lg_sl ([.ref t])).length) Slot.unset).toArray = ls at hl ⊢
  have hl : lv_has ls 1 [(0, .ref t)] := hl
  have hf39 := hts (Cond.fieldLink RX2 39 "RunmergeOffice$Job" "now" "LRunmergeOffice$RunRow;") (by decide +kernel)
  have hiX2 : ∀ w ∈ u_ws RX2 TX2 15, w ∈ wsX2_isOver := by decide +kernel
  have hiX7 : ∀ w ∈ u_ws RX7 TX7 5, w ∈ wsX2_isOver := by decide +kernel
  refine lv_aload_n hx hb dX2_isOver_0 rfl (lv_at hl 0 rfl) ?_
  refine va_get (D := (dC, dI)) (ci := 4) (v := .ref now) (C := RX2) (T := TX2) (N := 15) hx hb hts hiX2 hown hK hP k0 w0 rfl 5 (by decide) hf39 (fun _ h9 => h9) rfl dX2_isOver_1 ?_
  refine va_getN (D := (dC, dI)) (ci := 9) (v := .int 0) (C := RX7) (T := TX7) (N := 5) hx hb hts hiX7 hown hK hP k1 w1 rfl 3 (by decide) (nf_27 hG) (fun _ h9 => h9) rfl dX2_isOver_4 ?_
  refine lv_iconst (v := 1) hx hb dX2_isOver_7 (by decide) ?_
  refine lv_icmp_gt (tgt := 15) hx hb dX2_isOver_8 (by decide) (fun c_1 => absurd c_1 (by decide)) (fun c_1 => ?_)
  refine lv_iconst (v := 1) hx hb dX2_isOver_11 (by decide) ?_
  refine lv_goto (tgt := 16) hx hb dX2_isOver_12 (by decide) ?_
  exact W.zret (v := 1) hx hb hr rfl (fun t ht hW => ⟨⟨1, (), rfl, rfl, P_at ht hP⟩, hS.F ht⟩) hS.2.2 dX2_isOver_16
set_option maxHeartbeats 4000000 in
set_option maxRecDepth 100000 in
theorem c_X2_writeTo (l : Launch) (dC : Nat → ClassId) (dI : Nat → Nat → Nat) (g : Nat → ClassId) (Wd : va_W) (t : Nat) (mk : Nat) (pa : Nat) (ii : Nat) (pl : Nat) (now : Nat) (made : Nat) (nx : Nat) (na : Nat) (nb : Nat) (nc : Nat) (u : Nat) (hu : Nat) (to : Int32) (k0 : Nat) (w0 : Wd[k0]? = some (t, .inr (4, [.ref mk, .ref pa, .ref ii, .ref pl, .int 0, .ref now, .ref made, .ref nx, .int to, .int 0, .int 0, .int 0, .int 0, .int 0, .int 0]))) (k1 : Nat) (w1 : Wd[k1]? = some (now, .inr (9, [.ref na, .ref nb, .ref nc, .int 0, .int 0]))) (k2 : Nat) (w2 : Wd[k2]? = some (u, .inr (11, [.ref hu, .int 0]))) (sz : Nat) : Met l yX2_writeTo wsX2_writeTo ({ frames := 1, cells := 0, slots := 0, locals := 21 }) (va_Pc [.ref t, .ref u] (PG (dC, dI) g Wd sz)) (va_Qv (fun (_ : Unit) => True) (fun (_ : Unit) t => va_P (dC, dI) vwCl Wd t.heap) (va_A Wd sz)) 0 0 (va_A Wd sz) := by
  refine Met.ofW (cc := cX2_writeTo) (maxL := 4) (ret := none) (by decide) rfl ?_
  intro p e s m args below meth c s₁ B hml hv
  obtain ⟨rfl, hsz, hP, hK, hD0, hG⟩ := hv
  have hx := B.exec
  have hb := B.bytes
  have hr := B.returns
  have hts := atoms_spec (ws := wsX2_writeTo) B.pre
  have hown : s.vm.findClass RX2 = some m.cls := findClass_of_methodNamed B.named
  have hlocks := B.notSynchronized
  subst hsz
  have hD := hD0.self (sz := s.heap.size)
  generalize hAe : va_A Wd s.heap.size = A at hD hG ⊢
  have hA : ∀ q : Nat, s.heap.size ≤ q → A q := fun q h => by rw [← hAe]; exact Or.inr h
  have hS : va_S A s.heap s.heap [] := va_S.rf
  have hl := lv_entry ([.ref t, .ref u]) (n := 4) (Nat.le_of_ble_eq_true rfl)
  rw [lg_entry_eq]
  generalize (lg_sl ([.ref t, .ref u]) ++ List.replicate (4 - (lg_sl ([.ref t, .ref u])).length) Slot.unset).toArray = ls at hl ⊢
  have hl : lv_has ls 4 [(0, .ref t), (1, .ref u)] := hl
  have hf39 := hts (Cond.fieldLink RX2 39 "RunmergeOffice$Job" "now" "LRunmergeOffice$RunRow;") (by decide +kernel)
  have hiX2 : ∀ w ∈ u_ws RX2 TX2 15, w ∈ wsX2_writeTo := by decide +kernel
  refine lv_aload_n hx hb dX2_writeTo_0 rfl (lv_at hl 1 rfl) ?_
  refine va_callv (va_runV (As := []) (rest := []) ⟨hx, hb, hml, hown, hts⟩ (c_X9_empty l dC dI g Wd u hu k2 w2  s.heap.size) (cwV 0 hts gX2_writeTo_X9_empty rfl rfl rfl (by decide +kernel) ⟨Nat.le_of_ble_eq_true rfl, Nat.le_of_ble_eq_true rfl⟩) ⟨PG_blind, va_recv hK hP (ci := 11) (q0 := k2) rfl w2, PG_call hK hG hS hP hD (A_all hD hA hS.1)⟩ rfl rfl hl.1 rfl (lv_room (Nat.le_of_ble_eq_true rfl)) dX2_writeTo_1 ⟨Nat.le_of_ble_eq_true rfl, Nat.le_of_ble_eq_true rfl⟩) hS (fun q _ h => (A_all hD hA hS.1) q h) (A_all hD hA hS.1) (fun u_1 t_1 H_1 L_1 ht_1 hvm_1 hw_1 hB_1 hz_1 hk_1 hS => ?_)
  replace hB_1 := (show va_P (dC, dI) vwCl Wd t_1.heap from hB_1)
  rw [ht_1] at hB_1
  have hP := hB_1
  refine lv_aload_n hx hb dX2_writeTo_4 rfl (lv_at hl 0 rfl) ?_
  refine va_get (D := (dC, dI)) (ci := 4) (v := .ref now) (C := RX2) (T := TX2) (N := 15) hx hb hts hiX2 hown hK hP k0 w0 rfl 5 (by decide) hf39 (fun _ h9 => h9) rfl dX2_writeTo_5 ?_
  refine lv_iconst (v := 0) hx hb dX2_writeTo_8 (by decide) ?_
  refine va_calli (va_runV (As := [.int 0]) (rest := []) ⟨hx, hb, hml, hown, hts⟩ (c_X7_lengthOf l dC dI g Wd now na nb nc k1 w1  H_1.size) (cwV 1 hts gX2_writeTo_X7_lengthOf rfl rfl rfl (by decide +kernel) ⟨Nat.le_of_ble_eq_true rfl, Nat.le_of_ble_eq_true rfl⟩) ⟨PG_blind, va_recv hK hP (ci := 9) (q0 := k1) rfl w1, PG_call hK hG hS hP hD (A_all hD hA hS.1)⟩ rfl rfl hl.1 rfl (lv_room (Nat.le_of_ble_eq_true rfl)) dX2_writeTo_9 ⟨Nat.le_of_ble_eq_true rfl, Nat.le_of_ble_eq_true rfl⟩) hS (fun q _ h => (A_all hD hA hS.1) q h) (A_all hD hA hS.1) (fun r_2 u_2 t_2 H_2 L_2 ht_2 hvm_2 hw_2 hB_2 hz_2 hk_2 hS => ?_)
  replace hB_2 := (show va_P (dC, dI) vwCl Wd t_2.heap from hB_2)
  rw [ht_2] at hB_2
  have hP := hB_2
  obtain rfl : r_2 = 0 := hw_2
  refine lv_istore_n (lv' := [(2, .int 0), (0, .ref t), (1, .ref u)]) hx hb dX2_writeTo_12 rfl hl (by decide) rfl (fun ls hl => ?_)
  refine lv_iconst (v := 0) hx hb dX2_writeTo_13 (by decide) ?_
  refine lv_istore_n (lv' := [(3, .int 0), (2, .int 0), (0, .ref t), (1, .ref u)]) hx hb dX2_writeTo_14 rfl hl (by decide) rfl (fun ls hl => ?_)
  refine lv_iload_n hx hb dX2_writeTo_15 rfl (lv_at hl 0 rfl) ?_
  refine lv_iload_n hx hb dX2_writeTo_16 rfl (lv_at hl 1 rfl) ?_
  refine lv_icmp_ge (tgt := 42) hx hb dX2_writeTo_17 (by decide) (fun c_3 => ?_) (fun c_3 => absurd (by decide) c_3)
  exact W.vret hx hb hr (fun t ht hW => ⟨⟨(), rfl, trivial, P_at ht hP⟩, hS.F ht⟩) hS.2.2 dX2_writeTo_42
set_option maxHeartbeats 4000000 in
set_option maxRecDepth 100000 in
theorem c_X2_start_00 (l : Launch) (dC : Nat → ClassId) (dI : Nat → Nat → Nat) (g : Nat → ClassId) (Wd : va_W) (t : Nat) (mk : Nat) (pa : Nat) (ii : Nat) (pl : Nat) (now : Nat) (made : Nat) (nx : Nat) (ma : Nat) (mb : Nat) (na : Nat) (nb : Nat) (nc : Nat) (da : Nat) (db : Nat) (dc : Nat) (pa1 : Nat) (pa2 : Nat) (bk : Nat) (tp : Nat) (h : Nat) (w : Nat) (k0 : Nat) (w0 : Wd[k0]? = some (t, .inr (4, [.ref mk, .ref pa, .ref ii, .ref pl, .int 0, .ref now, .ref made, .ref nx, .int 0, .int 0, .int 0, .int 0, .int 0, .int 0, .int 0]))) (k1 : Nat) (w1 : Wd[k1]? = some (mk, .inr (8, [.ref ma, .ref mb, .int 0]))) (k2 : Nat) (w2 : Wd[k2]? = some (now, .inr (9, [.ref na, .ref nb, .ref nc, .int 0, .int 0]))) (k3 : Nat) (w3 : Wd[k3]? = some (made, .inr (9, [.ref da, .ref db, .ref dc, .int 0, .int 0]))) (k4 : Nat) (w4 : Wd[k4]? = some (pa, .inr (5, [.ref pa1, .ref pa2, .int 0, .int 2, .int 0, .int 0]))) (k5 : Nat) (w5 : Wd[k5]? = some (tp, .inr (11, [.ref h, .int 0]))) (k6 : Nat) (w6 : Wd[k6]? = some (w, .inr (10, [.int 0, .int 0, .int 4, .int 0, .int 2]))) (sz : Nat) : Met l yX2_start wsX2_start ({ frames := 2, cells := 0, slots := 0, locals := 52 }) (va_Pc [.ref t, .ref bk, .ref tp, .int 0, .ref w] (PG (dC, dI) g Wd sz)) (va_Qi (fun (r : Int32) (_ : Unit) => r = 0) (fun (_ : Unit) t => va_P (dC, dI) vwCl Wd t.heap) (va_A Wd sz)) 0 0 (va_A Wd sz) := by
  refine Met.ofW (cc := cX2_start) (maxL := 8) (ret := (some .int)) (by decide) rfl ?_
  intro p e s m args below meth c s₁ B hml hv
  obtain ⟨rfl, hsz, hP, hK, hD0, hG⟩ := hv
  have hx := B.exec
  have hb := B.bytes
  have hr := B.returns
  have hts := atoms_spec (ws := wsX2_start) B.pre
  have hown : s.vm.findClass RX2 = some m.cls := findClass_of_methodNamed B.named
  have hlocks := B.notSynchronized
  subst hsz
  have hD := hD0.self (sz := s.heap.size)
  generalize hAe : va_A Wd s.heap.size = A at hD hG ⊢
  have hA : ∀ q : Nat, s.heap.size ≤ q → A q := fun q h => by rw [← hAe]; exact Or.inr h
  have hS : va_S A s.heap s.heap [] := va_S.rf
  have hl := lv_entry ([.ref t, .ref bk, .ref tp, .int 0, .ref w]) (n := 8) (Nat.le_of_ble_eq_true rfl)
  rw [lg_entry_eq]
  generalize (lg_sl ([.ref t, .ref bk, .ref tp, .int 0, .ref w]) ++ List.replicate (8 - (lg_sl ([.ref t, .ref bk, .ref tp, .int 0, .ref w])).length) Slot.unset).toArray = ls at hl ⊢
  have hl : lv_has ls 8 [(0, .ref t), (1, .ref bk), (2, .ref tp), (3, .int 0), (4, .ref w)] := hl
  have hf12 := hts (Cond.fieldLink RX2 12 "RunmergeOffice$Job" "maker" "LRunmergeOffice$RunMaker;") (by decide +kernel)
  have hiX2 : ∀ w ∈ u_ws RX2 TX2 15, w ∈ wsX2_start := by decide +kernel
  have hf39 := hts (Cond.fieldLink RX2 39 "RunmergeOffice$Job" "now" "LRunmergeOffice$RunRow;") (by decide +kernel)
  have hiX7 : ∀ w ∈ u_ws RX7 TX7 5, w ∈ wsX2_start := by decide +kernel
  have hf21 := hts (Cond.fieldLink RX2 21 "RunmergeOffice$Job" "pass" "LRunmergeOffice$Pass;") (by decide +kernel)
  have hf43 := hts (Cond.fieldLink RX2 43 "RunmergeOffice$Job" "made" "LRunmergeOffice$RunRow;") (by decide +kernel)
  have hf49 := hts (Cond.fieldLink RX2 49 "RunmergeOffice$Job" "target" "I") (by decide +kernel)
  have hf52 := hts (Cond.fieldLink RX2 52 "RunmergeOffice$Job" "passes" "I") (by decide +kernel)
  have hf55 := hts (Cond.fieldLink RX2 55 "RunmergeOffice$Job" "merges" "I") (by decide +kernel)
  have hiX9 : ∀ w ∈ u_ws RX9 TX9 2, w ∈ wsX2_start := by decide +kernel
  have hf58 := hts (Cond.fieldLink RX2 58 "RunmergeOffice$Job" "moves" "I") (by decide +kernel)
  have hf61 := hts (Cond.fieldLink RX2 61 "RunmergeOffice$Job" "movesOfPass" "I") (by decide +kernel)
  have hf64 := hts (Cond.fieldLink RX2 64 "RunmergeOffice$Job" "lostMoves" "I") (by decide +kernel)
  have hf67 := hts (Cond.fieldLink RX2 67 "RunmergeOffice$Job" "timesTorn" "I") (by decide +kernel)
  refine lv_aload_n hx hb dX2_start_0 rfl (lv_at hl 0 rfl) ?_
  refine va_get (D := (dC, dI)) (ci := 4) (v := .ref mk) (C := RX2) (T := TX2) (N := 15) hx hb hts hiX2 hown hK hP k0 w0 rfl 0 (by decide) hf12 (fun _ h9 => h9) rfl dX2_start_1 ?_
  refine lv_aload_n hx hb dX2_start_4 rfl (lv_at hl 1 rfl) ?_
  refine lv_aload_n hx hb dX2_start_5 rfl (lv_at hl 2 rfl) ?_
  refine lv_aload hx hb dX2_start_6 (lv_at hl 4 rfl) ?_
  refine lv_aload_n hx hb dX2_start_8 rfl (lv_at hl 0 rfl) ?_
  refine va_get (D := (dC, dI)) (ci := 4) (v := .ref now) (C := RX2) (T := TX2) (N := 15) hx hb hts hiX2 hown hK hP k0 w0 rfl 5 (by decide) hf39 (fun _ h9 => h9) rfl dX2_start_9 ?_
  refine va_callv (va_runV (As := [.ref bk, .ref tp, .ref w, .ref now]) (rest := []) ⟨hx, hb, hml, hown, hts⟩ (c_X6_makeRuns_0 l dC dI g Wd mk ma mb bk tp h w now na nb nc 0 k1 w1 k5 w5 k6 w6 k2 w2  s.heap.size) (cwV 4 hts gX2_start_X6_makeRuns rfl rfl rfl (by decide +kernel) ⟨Nat.le_of_ble_eq_true rfl, Nat.le_of_ble_eq_true rfl⟩) ⟨PG_blind, va_recv hK hP (ci := 8) (q0 := k1) rfl w1, PG_call hK hG hS hP hD (A_all hD hA hS.1)⟩ rfl rfl hl.1 rfl (lv_room (Nat.le_of_ble_eq_true rfl)) dX2_start_12 ⟨Nat.le_of_ble_eq_true rfl, Nat.le_of_ble_eq_true rfl⟩) hS (fun q _ h => (A_all hD hA hS.1) q h) (A_all hD hA hS.1) (fun u_1 t_1 H_1 L_1 ht_1 hvm_1 hw_1 hB_1 hz_1 hk_1 hS => ?_)
  replace hB_1 := (show va_P (dC, dI) vwCl Wd t_1.heap from hB_1)
  rw [ht_1] at hB_1
  have hP := hB_1
  refine lv_aload_n hx hb dX2_start_15 rfl (lv_at hl 0 rfl) ?_
  refine va_get (D := (dC, dI)) (ci := 4) (v := .ref now) (C := RX2) (T := TX2) (N := 15) hx hb hts hiX2 hown hK hP k0 w0 rfl 5 (by decide) hf39 (fun _ h9 => h9) rfl dX2_start_16 ?_
  refine va_getN (D := (dC, dI)) (ci := 9) (v := .int 0) (C := RX7) (T := TX7) (N := 5) hx hb hts hiX7 hown hK hP k2 w2 rfl 3 (by decide) (nf_27 hG) (fun _ h9 => h9) rfl dX2_start_19 ?_
  refine lv_istore (lv' := [(5, .int 0), (0, .ref t), (1, .ref bk), (2, .ref tp), (3, .int 0), (4, .ref w)]) hx hb dX2_start_22 hl (by decide) rfl (fun ls hl => ?_)
  refine lv_aload_n hx hb dX2_start_24 rfl (lv_at hl 1 rfl) ?_
  refine va_get (D := (dC, dI)) (ci := 4) (v := .ref pa) (C := RX2) (T := TX2) (N := 15) hx hb hts hiX2 hown hK hP k0 w0 rfl 1 (by decide) hf21 (fun _ h9 => h9) rfl dX2_start_25 ?_
  refine lv_aload hx hb dX2_start_28 (lv_at hl 5 rfl) ?_
  refine lv_iload hx hb dX2_start_30 (lv_at hl 0 rfl) ?_
  refine va_calli (va_runV (As := [.ref w, .int 0]) (rest := []) ⟨hx, hb, hml, hown, hts⟩ (c_X3_arrange_0 l dC dI g Wd pa pa1 pa2 w 0 k4 w4 k6 w6  H_1.size) (cwV 2 hts gX2_start_X3_arrange rfl rfl rfl (by decide +kernel) ⟨Nat.le_of_ble_eq_true rfl, Nat.le_of_ble_eq_true rfl⟩) ⟨PG_blind, va_recv hK hP (ci := 5) (q0 := k4) rfl w4, PG_call hK hG hS hP hD (A_all hD hA hS.1)⟩ rfl rfl hl.1 rfl (lv_room (Nat.le_of_ble_eq_true rfl)) dX2_start_32 ⟨Nat.le_of_ble_eq_true rfl, Nat.le_of_ble_eq_true rfl⟩) hS (fun q _ h => (A_all hD hA hS.1) q h) (A_all hD hA hS.1) (fun r_2 u_2 t_2 H_2 L_2 ht_2 hvm_2 hw_2 hB_2 hz_2 hk_2 hS => ?_)
  replace hB_2 := (show va_P (dC, dI) vwCl Wd t_2.heap from hB_2)
  rw [ht_2] at hB_2
  have hP := hB_2
  obtain rfl : r_2 = 0 := hw_2
  refine lv_istore (lv' := [(6, .int 0), (5, .int 0), (0, .ref t), (1, .ref bk), (2, .ref tp), (3, .int 0), (4, .ref w)]) hx hb dX2_start_35 hl (by decide) rfl (fun ls hl => ?_)
  refine lv_iload hx hb dX2_start_37 (lv_at hl 1 rfl) ?_
  refine lv_istore (lv' := [(7, .int 0), (6, .int 0), (5, .int 0), (0, .ref t), (1, .ref bk), (2, .ref tp), (3, .int 0), (4, .ref w)]) hx hb dX2_start_39 hl (by decide) rfl (fun ls hl => ?_)
  refine lv_iload hx hb dX2_start_41 (lv_at hl 0 rfl) ?_
  refine lv_iload hx hb dX2_start_43 (lv_at hl 1 rfl) ?_
  refine lv_icmp_ge (tgt := 61) hx hb dX2_start_45 (by decide) (fun c_3 => ?_) (fun c_3 => absurd (by decide) c_3)
  refine lv_aload_n hx hb dX2_start_61 rfl (lv_at hl 3 rfl) ?_
  refine va_get (D := (dC, dI)) (ci := 4) (v := .ref made) (C := RX2) (T := TX2) (N := 15) hx hb hts hiX2 hown hK hP k0 w0 rfl 6 (by decide) hf43 (fun _ h9 => h9) rfl dX2_start_62 ?_
  refine va_callv (va_runV (As := []) (rest := []) ⟨hx, hb, hml, hown, hts⟩ (c_X7_empty l dC dI g Wd made da db dc k3 w3  H_2.size) (cwV 0 hts gX2_start_X7_empty rfl rfl rfl (by decide +kernel) ⟨Nat.le_of_ble_eq_true rfl, Nat.le_of_ble_eq_true rfl⟩) ⟨PG_blind, va_recv hK hP (ci := 9) (q0 := k3) rfl w3, PG_call hK hG hS hP hD (A_all hD hA hS.1)⟩ rfl rfl hl.1 rfl (lv_room (Nat.le_of_ble_eq_true rfl)) dX2_start_65 ⟨Nat.le_of_ble_eq_true rfl, Nat.le_of_ble_eq_true rfl⟩) hS (fun q _ h => (A_all hD hA hS.1) q h) (A_all hD hA hS.1) (fun u_4 t_4 H_4 L_4 ht_4 hvm_4 hw_4 hB_4 hz_4 hk_4 hS => ?_)
  replace hB_4 := (show va_P (dC, dI) vwCl Wd t_4.heap from hB_4)
  rw [ht_4] at hB_4
  have hP := hB_4
  refine lv_aload_n hx hb dX2_start_68 rfl (lv_at hl 3 rfl) ?_
  refine lv_iload_n hx hb dX2_start_69 rfl (lv_at hl 6 rfl) ?_
  refine va_putS (D := (dC, dI)) (ci := 4) (v := .int 0) (ty := .int) (C := RX2) (T := TX2) (N := 15) hx hb hts hiX2 tyX2 tyX2_ok nmX2 hown hK hP hD hS k0 w0 rfl 8 (by decide) hf49 (fun _ h9 => h9) rfl (by decide +kernel) rfl rfl (Nat.le_of_ble_eq_true rfl) rfl dX2_start_70 (fun H_5 L_6 hP hS => ?_)
  refine lv_aload_n hx hb dX2_start_73 rfl (lv_at hl 3 rfl) ?_
  refine lv_iconst (v := 0) hx hb dX2_start_74 (by decide) ?_
  refine va_putS (D := (dC, dI)) (ci := 4) (v := .int 0) (ty := .int) (C := RX2) (T := TX2) (N := 15) hx hb hts hiX2 tyX2 tyX2_ok nmX2 hown hK hP hD hS k0 w0 rfl 9 (by decide) hf52 (fun _ h9 => h9) rfl (by decide +kernel) rfl rfl (Nat.le_of_ble_eq_true rfl) rfl dX2_start_75 (fun H_7 L_8 hP hS => ?_)
  refine lv_aload_n hx hb dX2_start_78 rfl (lv_at hl 3 rfl) ?_
  refine lv_iconst (v := 0) hx hb dX2_start_79 (by decide) ?_
  refine va_putS (D := (dC, dI)) (ci := 4) (v := .int 0) (ty := .int) (C := RX2) (T := TX2) (N := 15) hx hb hts hiX2 tyX2 tyX2_ok nmX2 hown hK hP hD hS k0 w0 rfl 10 (by decide) hf55 (fun _ h9 => h9) rfl (by decide +kernel) rfl rfl (Nat.le_of_ble_eq_true rfl) rfl dX2_start_80 (fun H_9 L_10 hP hS => ?_)
  refine lv_aload_n hx hb dX2_start_83 rfl (lv_at hl 3 rfl) ?_
  refine lv_aload_n hx hb dX2_start_84 rfl (lv_at hl 5 rfl) ?_
  refine va_getN (D := (dC, dI)) (ci := 11) (v := .int 0) (C := RX9) (T := TX9) (N := 2) hx hb hts hiX9 hown hK hP k5 w5 rfl 1 (by decide) (nf_1 hG) (fun _ h9 => h9) rfl dX2_start_85 ?_
  refine va_putS (D := (dC, dI)) (ci := 4) (v := .int 0) (ty := .int) (C := RX2) (T := TX2) (N := 15) hx hb hts hiX2 tyX2 tyX2_ok nmX2 hown hK hP hD hS k0 w0 rfl 11 (by decide) hf58 (fun _ h9 => h9) rfl (by decide +kernel) rfl rfl (Nat.le_of_ble_eq_true rfl) rfl dX2_start_88 (fun H_11 L_12 hP hS => ?_)
  refine lv_aload_n hx hb dX2_start_91 rfl (lv_at hl 3 rfl) ?_
  refine lv_iconst (v := 0) hx hb dX2_start_92 (by decide) ?_
  refine va_putS (D := (dC, dI)) (ci := 4) (v := .int 0) (ty := .int) (C := RX2) (T := TX2) (N := 15) hx hb hts hiX2 tyX2 tyX2_ok nmX2 hown hK hP hD hS k0 w0 rfl 12 (by decide) hf61 (fun _ h9 => h9) rfl (by decide +kernel) rfl rfl (Nat.le_of_ble_eq_true rfl) rfl dX2_start_93 (fun H_13 L_14 hP hS => ?_)
  refine lv_aload_n hx hb dX2_start_96 rfl (lv_at hl 3 rfl) ?_
  refine lv_iconst (v := 0) hx hb dX2_start_97 (by decide) ?_
  refine va_putS (D := (dC, dI)) (ci := 4) (v := .int 0) (ty := .int) (C := RX2) (T := TX2) (N := 15) hx hb hts hiX2 tyX2 tyX2_ok nmX2 hown hK hP hD hS k0 w0 rfl 13 (by decide) hf64 (fun _ h9 => h9) rfl (by decide +kernel) rfl rfl (Nat.le_of_ble_eq_true rfl) rfl dX2_start_98 (fun H_15 L_16 hP hS => ?_)
  refine lv_aload_n hx hb dX2_start_101 rfl (lv_at hl 3 rfl) ?_
  refine lv_iconst (v := 0) hx hb dX2_start_102 (by decide) ?_
  refine va_putS (D := (dC, dI)) (ci := 4) (v := .int 0) (ty := .int) (C := RX2) (T := TX2) (N := 15) hx hb hts hiX2 tyX2 tyX2_ok nmX2 hown hK hP hD hS k0 w0 rfl 14 (by decide) hf67 (fun _ h9 => h9) rfl (by decide +kernel) rfl rfl (Nat.le_of_ble_eq_true rfl) rfl dX2_start_103 (fun H_17 L_18 hP hS => ?_)
  refine lv_iload hx hb dX2_start_106 (lv_at hl 2 rfl) ?_
  exact W.iret (v := 0) hx hb hr (fun t ht hW => ⟨⟨0, (), rfl, rfl, P_at ht hP⟩, hS.F ht⟩) hS.2.2 dX2_start_108
set_option maxHeartbeats 4000000 in
set_option maxRecDepth 100000 in
theorem c_X2_doWhole_00 (l : Launch) (dC : Nat → ClassId) (dI : Nat → Nat → Nat) (g : Nat → ClassId) (Wd : va_W) (t : Nat) (mk : Nat) (pa : Nat) (ii : Nat) (pl : Nat) (now : Nat) (made : Nat) (nx : Nat) (ma : Nat) (mb : Nat) (na : Nat) (nb : Nat) (nc : Nat) (da : Nat) (db : Nat) (dc : Nat) (pa1 : Nat) (pa2 : Nat) (bk : Nat) (tp : Nat) (h : Nat) (u : Nat) (hu : Nat) (w : Nat) (k0 : Nat) (w0 : Wd[k0]? = some (t, .inr (4, [.ref mk, .ref pa, .ref ii, .ref pl, .int 0, .ref now, .ref made, .ref nx, .int 0, .int 0, .int 0, .int 0, .int 0, .int 0, .int 0]))) (k1 : Nat) (w1 : Wd[k1]? = some (mk, .inr (8, [.ref ma, .ref mb, .int 0]))) (k2 : Nat) (w2 : Wd[k2]? = some (now, .inr (9, [.ref na, .ref nb, .ref nc, .int 0, .int 0]))) (k3 : Nat) (w3 : Wd[k3]? = some (made, .inr (9, [.ref da, .ref db, .ref dc, .int 0, .int 0]))) (k4 : Nat) (w4 : Wd[k4]? = some (pa, .inr (5, [.ref pa1, .ref pa2, .int 0, .int 2, .int 0, .int 0]))) (k5 : Nat) (w5 : Wd[k5]? = some (tp, .inr (11, [.ref h, .int 0]))) (k6 : Nat) (w6 : Wd[k6]? = some (u, .inr (11, [.ref hu, .int 0]))) (k7 : Nat) (w7 : Wd[k7]? = some (w, .inr (10, [.int 0, .int 0, .int 4, .int 0, .int 2]))) (sz : Nat) : Met l yX2_doWhole wsX2_doWhole ({ frames := 3, cells := 0, slots := 0, locals := 79 }) (va_Pc [.ref t, .ref bk, .ref tp, .ref u, .ref w] (PG (dC, dI) g Wd sz)) (va_Qv (fun (_ : Unit) => True) (fun (_ : Unit) t => va_P (dC, dI) vwCl Wd t.heap) (va_A Wd sz)) 0 0 (va_A Wd sz) := by
  refine Met.ofW (cc := cX2_doWhole) (maxL := 6) (ret := none) (by decide) rfl ?_
  intro p e s m args below meth c s₁ B hml hv
  obtain ⟨rfl, hsz, hP, hK, hD0, hG⟩ := hv
  have hx := B.exec
  have hb := B.bytes
  have hr := B.returns
  have hts := atoms_spec (ws := wsX2_doWhole) B.pre
  have hown : s.vm.findClass RX2 = some m.cls := findClass_of_methodNamed B.named
  have hlocks := B.notSynchronized
  subst hsz
  have hD := hD0.self (sz := s.heap.size)
  generalize hAe : va_A Wd s.heap.size = A at hD hG ⊢
  have hA : ∀ q : Nat, s.heap.size ≤ q → A q := fun q h => by rw [← hAe]; exact Or.inr h
  have hS : va_S A s.heap s.heap [] := va_S.rf
  have hl := lv_entry ([.ref t, .ref bk, .ref tp, .ref u, .ref w]) (n := 6) (Nat.le_of_ble_eq_true rfl)
  rw [lg_entry_eq]
  generalize (lg_sl ([.ref t, .ref bk, .ref tp, .ref u, .ref w]) ++ List.replicate (6 - (lg_sl ([.ref t, .ref bk, .ref tp, .ref u, .ref w])).length) Slot.unset).toArray = ls at hl ⊢
  have hl : lv_has ls 6 [(0, .ref t), (1, .ref bk), (2, .ref tp), (3, .ref u), (4, .ref w)] := hl
  refine lv_aload_n hx hb dX2_doWhole_0 rfl (lv_at hl 0 rfl) ?_
  refine lv_aload_n hx hb dX2_doWhole_1 rfl (lv_at hl 1 rfl) ?_
  refine lv_aload_n hx hb dX2_doWhole_2 rfl (lv_at hl 2 rfl) ?_
  refine lv_iconst (v := 0) hx hb dX2_doWhole_3 (by decide) ?_
  refine lv_aload hx hb dX2_doWhole_4 (lv_at hl 4 rfl) ?_
  refine va_calli (va_runV (As := [.ref bk, .ref tp, .int 0, .ref w]) (rest := []) ⟨hx, hb, hml, hown, hts⟩ (c_X2_start_00 l dC dI g Wd t mk pa ii pl now made nx ma mb na nb nc da db dc pa1 pa2 bk tp h w k0 w0 k1 w1 k2 w2 k3 w3 k4 w4 k5 w5 k7 w7  s.heap.size) (cwV 4 hts gX2_doWhole_X2_start rfl rfl rfl (by decide +kernel) ⟨Nat.le_of_ble_eq_true rfl, Nat.le_of_ble_eq_true rfl⟩) ⟨PG_blind, va_recv hK hP (ci := 4) (q0 := k0) rfl w0, PG_call hK hG hS hP hD (A_all hD hA hS.1)⟩ rfl rfl hl.1 rfl (lv_room (Nat.le_of_ble_eq_true rfl)) dX2_doWhole_6 ⟨Nat.le_of_ble_eq_true rfl, Nat.le_of_ble_eq_true rfl⟩) hS (fun q _ h => (A_all hD hA hS.1) q h) (A_all hD hA hS.1) (fun r_1 u_1 t_1 H_1 L_1 ht_1 hvm_1 hw_1 hB_1 hz_1 hk_1 hS => ?_)
  replace hB_1 := (show va_P (dC, dI) vwCl Wd t_1.heap from hB_1)
  rw [ht_1] at hB_1
  have hP := hB_1
  obtain rfl : r_1 = 0 := hw_1
  refine lv_pop hx hb dX2_doWhole_9 rfl ?_
  refine lv_iconst (v := 0) hx hb dX2_doWhole_10 (by decide) ?_
  refine lv_istore (lv' := [(5, .int 0), (0, .ref t), (1, .ref bk), (2, .ref tp), (3, .ref u), (4, .ref w)]) hx hb dX2_doWhole_11 hl (by decide) rfl (fun ls hl => ?_)
  refine lv_iload hx hb dX2_doWhole_13 (lv_at hl 0 rfl) ?_
  refine lv_sipush (v := 200) hx hb dX2_doWhole_15 (by decide) ?_
  refine lv_icmp_ge (tgt := 38) hx hb dX2_doWhole_18 (by decide) (fun c_2 => absurd c_2 (by decide)) (fun c_2 => ?_)
  refine lv_aload_n hx hb dX2_doWhole_21 rfl (lv_at hl 1 rfl) ?_
  refine va_calli (va_runV (As := []) (rest := []) ⟨hx, hb, hml, hown, hts⟩ (c_X2_isOver l dC dI g Wd t mk pa ii pl now made nx na nb nc 0 k0 w0 k2 w2  H_1.size) (cwV 0 hts gX2_doWhole_X2_isOver rfl rfl rfl (by decide +kernel) ⟨Nat.le_of_ble_eq_true rfl, Nat.le_of_ble_eq_true rfl⟩) ⟨PG_blind, va_recv hK hP (ci := 4) (q0 := k0) rfl w0, PG_call hK hG hS hP hD (A_all hD hA hS.1)⟩ rfl rfl hl.1 rfl (lv_room (Nat.le_of_ble_eq_true rfl)) dX2_doWhole_22 ⟨Nat.le_of_ble_eq_true rfl, Nat.le_of_ble_eq_true rfl⟩) hS (fun q _ h => (A_all hD hA hS.1) q h) (A_all hD hA hS.1) (fun r_3 u_3 t_3 H_3 L_3 ht_3 hvm_3 hw_3 hB_3 hz_3 hk_3 hS => ?_)
  replace hB_3 := (show va_P (dC, dI) vwCl Wd t_3.heap from hB_3)
  rw [ht_3] at hB_3
  have hP := hB_3
  obtain rfl : r_3 = 1 := hw_3
  refine lv_if_ne (tgt := 38) hx hb dX2_doWhole_25 (by decide) (fun c_4 => ?_) (fun c_4 => absurd c_4 (by decide))
  refine lv_aload_n hx hb dX2_doWhole_38 rfl (lv_at hl 1 rfl) ?_
  refine lv_aload_n hx hb dX2_doWhole_39 rfl (lv_at hl 4 rfl) ?_
  refine va_callv (va_runV (As := [.ref u]) (rest := []) ⟨hx, hb, hml, hown, hts⟩ (c_X2_writeTo l dC dI g Wd t mk pa ii pl now made nx na nb nc u hu 0 k0 w0 k2 w2 k6 w6  H_3.size) (cwV 1 hts gX2_doWhole_X2_writeTo rfl rfl rfl (by decide +kernel) ⟨Nat.le_of_ble_eq_true rfl, Nat.le_of_ble_eq_true rfl⟩) ⟨PG_blind, va_recv hK hP (ci := 4) (q0 := k0) rfl w0, PG_call hK hG hS hP hD (A_all hD hA hS.1)⟩ rfl rfl hl.1 rfl (lv_room (Nat.le_of_ble_eq_true rfl)) dX2_doWhole_40 ⟨Nat.le_of_ble_eq_true rfl, Nat.le_of_ble_eq_true rfl⟩) hS (fun q _ h => (A_all hD hA hS.1) q h) (A_all hD hA hS.1) (fun u_5 t_5 H_5 L_5 ht_5 hvm_5 hw_5 hB_5 hz_5 hk_5 hS => ?_)
  replace hB_5 := (show va_P (dC, dI) vwCl Wd t_5.heap from hB_5)
  rw [ht_5] at hB_5
  have hP := hB_5
  exact W.vret hx hb hr (fun t ht hW => ⟨⟨(), rfl, trivial, P_at ht hP⟩, hS.F ht⟩) hS.2.2 dX2_doWhole_43
set_option maxHeartbeats 4000000 in
set_option maxRecDepth 100000 in
theorem c_X2_start_01 (l : Launch) (dC : Nat → ClassId) (dI : Nat → Nat → Nat) (g : Nat → ClassId) (Wd : va_W) (t : Nat) (mk : Nat) (pa : Nat) (ii : Nat) (pl : Nat) (now : Nat) (made : Nat) (nx : Nat) (ma : Nat) (mb : Nat) (na : Nat) (nb : Nat) (nc : Nat) (da : Nat) (db : Nat) (dc : Nat) (pa1 : Nat) (pa2 : Nat) (bk : Nat) (tp : Nat) (h : Nat) (w : Nat) (k0 : Nat) (w0 : Wd[k0]? = some (t, .inr (4, [.ref mk, .ref pa, .ref ii, .ref pl, .int 0, .ref now, .ref made, .ref nx, .int 0, .int 0, .int 0, .int 0, .int 0, .int 0, .int 0]))) (k1 : Nat) (w1 : Wd[k1]? = some (mk, .inr (8, [.ref ma, .ref mb, .int 0]))) (k2 : Nat) (w2 : Wd[k2]? = some (now, .inr (9, [.ref na, .ref nb, .ref nc, .int 0, .int 0]))) (k3 : Nat) (w3 : Wd[k3]? = some (made, .inr (9, [.ref da, .ref db, .ref dc, .int 0, .int 0]))) (k4 : Nat) (w4 : Wd[k4]? = some (pa, .inr (5, [.ref pa1, .ref pa2, .int 1, .int 2, .int 0, .int 0]))) (k5 : Nat) (w5 : Wd[k5]? = some (tp, .inr (11, [.ref h, .int 0]))) (k6 : Nat) (w6 : Wd[k6]? = some (w, .inr (10, [.int 0, .int 0, .int 4, .int 1, .int 2]))) (sz : Nat) : Met l yX2_start wsX2_start ({ frames := 2, cells := 0, slots := 0, locals := 52 }) (va_Pc [.ref t, .ref bk, .ref tp, .int 0, .ref w] (PG (dC, dI) g Wd sz)) (va_Qi (fun (r : Int32) (_ : Unit) => r = 0) (fun (_ : Unit) t => va_P (dC, dI) vwCl Wd t.heap) (va_A Wd sz)) 0 0 (va_A Wd sz) := by
  refine Met.ofW (cc := cX2_start) (maxL := 8) (ret := (some .int)) (by decide) rfl ?_
  intro p e s m args below meth c s₁ B hml hv
  obtain ⟨rfl, hsz, hP, hK, hD0, hG⟩ := hv
  have hx := B.exec
  have hb := B.bytes
  have hr := B.returns
  have hts := atoms_spec (ws := wsX2_start) B.pre
  have hown : s.vm.findClass RX2 = some m.cls := findClass_of_methodNamed B.named
  have hlocks := B.notSynchronized
  subst hsz
  have hD := hD0.self (sz := s.heap.size)
  generalize hAe : va_A Wd s.heap.size = A at hD hG ⊢
  have hA : ∀ q : Nat, s.heap.size ≤ q → A q := fun q h => by rw [← hAe]; exact Or.inr h
  have hS : va_S A s.heap s.heap [] := va_S.rf
  have hl := lv_entry ([.ref t, .ref bk, .ref tp, .int 0, .ref w]) (n := 8) (Nat.le_of_ble_eq_true rfl)
  rw [lg_entry_eq]
  generalize (lg_sl ([.ref t, .ref bk, .ref tp, .int 0, .ref w]) ++ List.replicate (8 - (lg_sl ([.ref t, .ref bk, .ref tp, .int 0, .ref w])).length) Slot.unset).toArray = ls at hl ⊢
  have hl : lv_has ls 8 [(0, .ref t), (1, .ref bk), (2, .ref tp), (3, .int 0), (4, .ref w)] := hl
  have hf12 := hts (Cond.fieldLink RX2 12 "RunmergeOffice$Job" "maker" "LRunmergeOffice$RunMaker;") (by decide +kernel)
  have hiX2 : ∀ w ∈ u_ws RX2 TX2 15, w ∈ wsX2_start := by decide +kernel
  have hf39 := hts (Cond.fieldLink RX2 39 "RunmergeOffice$Job" "now" "LRunmergeOffice$RunRow;") (by decide +kernel)
  have hiX7 : ∀ w ∈ u_ws RX7 TX7 5, w ∈ wsX2_start := by decide +kernel
  have hf21 := hts (Cond.fieldLink RX2 21 "RunmergeOffice$Job" "pass" "LRunmergeOffice$Pass;") (by decide +kernel)
  have hf43 := hts (Cond.fieldLink RX2 43 "RunmergeOffice$Job" "made" "LRunmergeOffice$RunRow;") (by decide +kernel)
  have hf49 := hts (Cond.fieldLink RX2 49 "RunmergeOffice$Job" "target" "I") (by decide +kernel)
  have hf52 := hts (Cond.fieldLink RX2 52 "RunmergeOffice$Job" "passes" "I") (by decide +kernel)
  have hf55 := hts (Cond.fieldLink RX2 55 "RunmergeOffice$Job" "merges" "I") (by decide +kernel)
  have hiX9 : ∀ w ∈ u_ws RX9 TX9 2, w ∈ wsX2_start := by decide +kernel
  have hf58 := hts (Cond.fieldLink RX2 58 "RunmergeOffice$Job" "moves" "I") (by decide +kernel)
  have hf61 := hts (Cond.fieldLink RX2 61 "RunmergeOffice$Job" "movesOfPass" "I") (by decide +kernel)
  have hf64 := hts (Cond.fieldLink RX2 64 "RunmergeOffice$Job" "lostMoves" "I") (by decide +kernel)
  have hf67 := hts (Cond.fieldLink RX2 67 "RunmergeOffice$Job" "timesTorn" "I") (by decide +kernel)
  refine lv_aload_n hx hb dX2_start_0 rfl (lv_at hl 0 rfl) ?_
  refine va_get (D := (dC, dI)) (ci := 4) (v := .ref mk) (C := RX2) (T := TX2) (N := 15) hx hb hts hiX2 hown hK hP k0 w0 rfl 0 (by decide) hf12 (fun _ h9 => h9) rfl dX2_start_1 ?_
  refine lv_aload_n hx hb dX2_start_4 rfl (lv_at hl 1 rfl) ?_
  refine lv_aload_n hx hb dX2_start_5 rfl (lv_at hl 2 rfl) ?_
  refine lv_aload hx hb dX2_start_6 (lv_at hl 4 rfl) ?_
  refine lv_aload_n hx hb dX2_start_8 rfl (lv_at hl 0 rfl) ?_
  refine va_get (D := (dC, dI)) (ci := 4) (v := .ref now) (C := RX2) (T := TX2) (N := 15) hx hb hts hiX2 hown hK hP k0 w0 rfl 5 (by decide) hf39 (fun _ h9 => h9) rfl dX2_start_9 ?_
  refine va_callv (va_runV (As := [.ref bk, .ref tp, .ref w, .ref now]) (rest := []) ⟨hx, hb, hml, hown, hts⟩ (c_X6_makeRuns_0 l dC dI g Wd mk ma mb bk tp h w now na nb nc 1 k1 w1 k5 w5 k6 w6 k2 w2  s.heap.size) (cwV 4 hts gX2_start_X6_makeRuns rfl rfl rfl (by decide +kernel) ⟨Nat.le_of_ble_eq_true rfl, Nat.le_of_ble_eq_true rfl⟩) ⟨PG_blind, va_recv hK hP (ci := 8) (q0 := k1) rfl w1, PG_call hK hG hS hP hD (A_all hD hA hS.1)⟩ rfl rfl hl.1 rfl (lv_room (Nat.le_of_ble_eq_true rfl)) dX2_start_12 ⟨Nat.le_of_ble_eq_true rfl, Nat.le_of_ble_eq_true rfl⟩) hS (fun q _ h => (A_all hD hA hS.1) q h) (A_all hD hA hS.1) (fun u_1 t_1 H_1 L_1 ht_1 hvm_1 hw_1 hB_1 hz_1 hk_1 hS => ?_)
  replace hB_1 := (show va_P (dC, dI) vwCl Wd t_1.heap from hB_1)
  rw [ht_1] at hB_1
  have hP := hB_1
  refine lv_aload_n hx hb dX2_start_15 rfl (lv_at hl 0 rfl) ?_
  refine va_get (D := (dC, dI)) (ci := 4) (v := .ref now) (C := RX2) (T := TX2) (N := 15) hx hb hts hiX2 hown hK hP k0 w0 rfl 5 (by decide) hf39 (fun _ h9 => h9) rfl dX2_start_16 ?_
  refine va_getN (D := (dC, dI)) (ci := 9) (v := .int 0) (C := RX7) (T := TX7) (N := 5) hx hb hts hiX7 hown hK hP k2 w2 rfl 3 (by decide) (nf_27 hG) (fun _ h9 => h9) rfl dX2_start_19 ?_
  refine lv_istore (lv' := [(5, .int 0), (0, .ref t), (1, .ref bk), (2, .ref tp), (3, .int 0), (4, .ref w)]) hx hb dX2_start_22 hl (by decide) rfl (fun ls hl => ?_)
  refine lv_aload_n hx hb dX2_start_24 rfl (lv_at hl 1 rfl) ?_
  refine va_get (D := (dC, dI)) (ci := 4) (v := .ref pa) (C := RX2) (T := TX2) (N := 15) hx hb hts hiX2 hown hK hP k0 w0 rfl 1 (by decide) hf21 (fun _ h9 => h9) rfl dX2_start_25 ?_
  refine lv_aload hx hb dX2_start_28 (lv_at hl 5 rfl) ?_
  refine lv_iload hx hb dX2_start_30 (lv_at hl 0 rfl) ?_
  refine va_calli (va_runV (As := [.ref w, .int 0]) (rest := []) ⟨hx, hb, hml, hown, hts⟩ (c_X3_arrange_1 l dC dI g Wd pa pa1 pa2 w 0 k4 w4 k6 w6  H_1.size) (cwV 2 hts gX2_start_X3_arrange rfl rfl rfl (by decide +kernel) ⟨Nat.le_of_ble_eq_true rfl, Nat.le_of_ble_eq_true rfl⟩) ⟨PG_blind, va_recv hK hP (ci := 5) (q0 := k4) rfl w4, PG_call hK hG hS hP hD (A_all hD hA hS.1)⟩ rfl rfl hl.1 rfl (lv_room (Nat.le_of_ble_eq_true rfl)) dX2_start_32 ⟨Nat.le_of_ble_eq_true rfl, Nat.le_of_ble_eq_true rfl⟩) hS (fun q _ h => (A_all hD hA hS.1) q h) (A_all hD hA hS.1) (fun r_2 u_2 t_2 H_2 L_2 ht_2 hvm_2 hw_2 hB_2 hz_2 hk_2 hS => ?_)
  replace hB_2 := (show va_P (dC, dI) vwCl Wd t_2.heap from hB_2)
  rw [ht_2] at hB_2
  have hP := hB_2
  obtain rfl : r_2 = 0 := hw_2
  refine lv_istore (lv' := [(6, .int 0), (5, .int 0), (0, .ref t), (1, .ref bk), (2, .ref tp), (3, .int 0), (4, .ref w)]) hx hb dX2_start_35 hl (by decide) rfl (fun ls hl => ?_)
  refine lv_iload hx hb dX2_start_37 (lv_at hl 1 rfl) ?_
  refine lv_istore (lv' := [(7, .int 0), (6, .int 0), (5, .int 0), (0, .ref t), (1, .ref bk), (2, .ref tp), (3, .int 0), (4, .ref w)]) hx hb dX2_start_39 hl (by decide) rfl (fun ls hl => ?_)
  refine lv_iload hx hb dX2_start_41 (lv_at hl 0 rfl) ?_
  refine lv_iload hx hb dX2_start_43 (lv_at hl 1 rfl) ?_
  refine lv_icmp_ge (tgt := 61) hx hb dX2_start_45 (by decide) (fun c_3 => ?_) (fun c_3 => absurd (by decide) c_3)
  refine lv_aload_n hx hb dX2_start_61 rfl (lv_at hl 3 rfl) ?_
  refine va_get (D := (dC, dI)) (ci := 4) (v := .ref made) (C := RX2) (T := TX2) (N := 15) hx hb hts hiX2 hown hK hP k0 w0 rfl 6 (by decide) hf43 (fun _ h9 => h9) rfl dX2_start_62 ?_
  refine va_callv (va_runV (As := []) (rest := []) ⟨hx, hb, hml, hown, hts⟩ (c_X7_empty l dC dI g Wd made da db dc k3 w3  H_2.size) (cwV 0 hts gX2_start_X7_empty rfl rfl rfl (by decide +kernel) ⟨Nat.le_of_ble_eq_true rfl, Nat.le_of_ble_eq_true rfl⟩) ⟨PG_blind, va_recv hK hP (ci := 9) (q0 := k3) rfl w3, PG_call hK hG hS hP hD (A_all hD hA hS.1)⟩ rfl rfl hl.1 rfl (lv_room (Nat.le_of_ble_eq_true rfl)) dX2_start_65 ⟨Nat.le_of_ble_eq_true rfl, Nat.le_of_ble_eq_true rfl⟩) hS (fun q _ h => (A_all hD hA hS.1) q h) (A_all hD hA hS.1) (fun u_4 t_4 H_4 L_4 ht_4 hvm_4 hw_4 hB_4 hz_4 hk_4 hS => ?_)
  replace hB_4 := (show va_P (dC, dI) vwCl Wd t_4.heap from hB_4)
  rw [ht_4] at hB_4
  have hP := hB_4
  refine lv_aload_n hx hb dX2_start_68 rfl (lv_at hl 3 rfl) ?_
  refine lv_iload_n hx hb dX2_start_69 rfl (lv_at hl 6 rfl) ?_
  refine va_putS (D := (dC, dI)) (ci := 4) (v := .int 0) (ty := .int) (C := RX2) (T := TX2) (N := 15) hx hb hts hiX2 tyX2 tyX2_ok nmX2 hown hK hP hD hS k0 w0 rfl 8 (by decide) hf49 (fun _ h9 => h9) rfl (by decide +kernel) rfl rfl (Nat.le_of_ble_eq_true rfl) rfl dX2_start_70 (fun H_5 L_6 hP hS => ?_)
  refine lv_aload_n hx hb dX2_start_73 rfl (lv_at hl 3 rfl) ?_
  refine lv_iconst (v := 0) hx hb dX2_start_74 (by decide) ?_
  refine va_putS (D := (dC, dI)) (ci := 4) (v := .int 0) (ty := .int) (C := RX2) (T := TX2) (N := 15) hx hb hts hiX2 tyX2 tyX2_ok nmX2 hown hK hP hD hS k0 w0 rfl 9 (by decide) hf52 (fun _ h9 => h9) rfl (by decide +kernel) rfl rfl (Nat.le_of_ble_eq_true rfl) rfl dX2_start_75 (fun H_7 L_8 hP hS => ?_)
  refine lv_aload_n hx hb dX2_start_78 rfl (lv_at hl 3 rfl) ?_
  refine lv_iconst (v := 0) hx hb dX2_start_79 (by decide) ?_
  refine va_putS (D := (dC, dI)) (ci := 4) (v := .int 0) (ty := .int) (C := RX2) (T := TX2) (N := 15) hx hb hts hiX2 tyX2 tyX2_ok nmX2 hown hK hP hD hS k0 w0 rfl 10 (by decide) hf55 (fun _ h9 => h9) rfl (by decide +kernel) rfl rfl (Nat.le_of_ble_eq_true rfl) rfl dX2_start_80 (fun H_9 L_10 hP hS => ?_)
  refine lv_aload_n hx hb dX2_start_83 rfl (lv_at hl 3 rfl) ?_
  refine lv_aload_n hx hb dX2_start_84 rfl (lv_at hl 5 rfl) ?_
  refine va_getN (D := (dC, dI)) (ci := 11) (v := .int 0) (C := RX9) (T := TX9) (N := 2) hx hb hts hiX9 hown hK hP k5 w5 rfl 1 (by decide) (nf_1 hG) (fun _ h9 => h9) rfl dX2_start_85 ?_
  refine va_putS (D := (dC, dI)) (ci := 4) (v := .int 0) (ty := .int) (C := RX2) (T := TX2) (N := 15) hx hb hts hiX2 tyX2 tyX2_ok nmX2 hown hK hP hD hS k0 w0 rfl 11 (by decide) hf58 (fun _ h9 => h9) rfl (by decide +kernel) rfl rfl (Nat.le_of_ble_eq_true rfl) rfl dX2_start_88 (fun H_11 L_12 hP hS => ?_)
  refine lv_aload_n hx hb dX2_start_91 rfl (lv_at hl 3 rfl) ?_
  refine lv_iconst (v := 0) hx hb dX2_start_92 (by decide) ?_
  refine va_putS (D := (dC, dI)) (ci := 4) (v := .int 0) (ty := .int) (C := RX2) (T := TX2) (N := 15) hx hb hts hiX2 tyX2 tyX2_ok nmX2 hown hK hP hD hS k0 w0 rfl 12 (by decide) hf61 (fun _ h9 => h9) rfl (by decide +kernel) rfl rfl (Nat.le_of_ble_eq_true rfl) rfl dX2_start_93 (fun H_13 L_14 hP hS => ?_)
  refine lv_aload_n hx hb dX2_start_96 rfl (lv_at hl 3 rfl) ?_
  refine lv_iconst (v := 0) hx hb dX2_start_97 (by decide) ?_
  refine va_putS (D := (dC, dI)) (ci := 4) (v := .int 0) (ty := .int) (C := RX2) (T := TX2) (N := 15) hx hb hts hiX2 tyX2 tyX2_ok nmX2 hown hK hP hD hS k0 w0 rfl 13 (by decide) hf64 (fun _ h9 => h9) rfl (by decide +kernel) rfl rfl (Nat.le_of_ble_eq_true rfl) rfl dX2_start_98 (fun H_15 L_16 hP hS => ?_)
  refine lv_aload_n hx hb dX2_start_101 rfl (lv_at hl 3 rfl) ?_
  refine lv_iconst (v := 0) hx hb dX2_start_102 (by decide) ?_
  refine va_putS (D := (dC, dI)) (ci := 4) (v := .int 0) (ty := .int) (C := RX2) (T := TX2) (N := 15) hx hb hts hiX2 tyX2 tyX2_ok nmX2 hown hK hP hD hS k0 w0 rfl 14 (by decide) hf67 (fun _ h9 => h9) rfl (by decide +kernel) rfl rfl (Nat.le_of_ble_eq_true rfl) rfl dX2_start_103 (fun H_17 L_18 hP hS => ?_)
  refine lv_iload hx hb dX2_start_106 (lv_at hl 2 rfl) ?_
  exact W.iret (v := 0) hx hb hr (fun t ht hW => ⟨⟨0, (), rfl, rfl, P_at ht hP⟩, hS.F ht⟩) hS.2.2 dX2_start_108
set_option maxHeartbeats 4000000 in
set_option maxRecDepth 100000 in
theorem c_X2_doWhole_01 (l : Launch) (dC : Nat → ClassId) (dI : Nat → Nat → Nat) (g : Nat → ClassId) (Wd : va_W) (t : Nat) (mk : Nat) (pa : Nat) (ii : Nat) (pl : Nat) (now : Nat) (made : Nat) (nx : Nat) (ma : Nat) (mb : Nat) (na : Nat) (nb : Nat) (nc : Nat) (da : Nat) (db : Nat) (dc : Nat) (pa1 : Nat) (pa2 : Nat) (bk : Nat) (tp : Nat) (h : Nat) (u : Nat) (hu : Nat) (w : Nat) (k0 : Nat) (w0 : Wd[k0]? = some (t, .inr (4, [.ref mk, .ref pa, .ref ii, .ref pl, .int 0, .ref now, .ref made, .ref nx, .int 0, .int 0, .int 0, .int 0, .int 0, .int 0, .int 0]))) (k1 : Nat) (w1 : Wd[k1]? = some (mk, .inr (8, [.ref ma, .ref mb, .int 0]))) (k2 : Nat) (w2 : Wd[k2]? = some (now, .inr (9, [.ref na, .ref nb, .ref nc, .int 0, .int 0]))) (k3 : Nat) (w3 : Wd[k3]? = some (made, .inr (9, [.ref da, .ref db, .ref dc, .int 0, .int 0]))) (k4 : Nat) (w4 : Wd[k4]? = some (pa, .inr (5, [.ref pa1, .ref pa2, .int 1, .int 2, .int 0, .int 0]))) (k5 : Nat) (w5 : Wd[k5]? = some (tp, .inr (11, [.ref h, .int 0]))) (k6 : Nat) (w6 : Wd[k6]? = some (u, .inr (11, [.ref hu, .int 0]))) (k7 : Nat) (w7 : Wd[k7]? = some (w, .inr (10, [.int 0, .int 0, .int 4, .int 1, .int 2]))) (sz : Nat) : Met l yX2_doWhole wsX2_doWhole ({ frames := 3, cells := 0, slots := 0, locals := 79 }) (va_Pc [.ref t, .ref bk, .ref tp, .ref u, .ref w] (PG (dC, dI) g Wd sz)) (va_Qv (fun (_ : Unit) => True) (fun (_ : Unit) t => va_P (dC, dI) vwCl Wd t.heap) (va_A Wd sz)) 0 0 (va_A Wd sz) := by
  refine Met.ofW (cc := cX2_doWhole) (maxL := 6) (ret := none) (by decide) rfl ?_
  intro p e s m args below meth c s₁ B hml hv
  obtain ⟨rfl, hsz, hP, hK, hD0, hG⟩ := hv
  have hx := B.exec
  have hb := B.bytes
  have hr := B.returns
  have hts := atoms_spec (ws := wsX2_doWhole) B.pre
  have hown : s.vm.findClass RX2 = some m.cls := findClass_of_methodNamed B.named
  have hlocks := B.notSynchronized
  subst hsz
  have hD := hD0.self (sz := s.heap.size)
  generalize hAe : va_A Wd s.heap.size = A at hD hG ⊢
  have hA : ∀ q : Nat, s.heap.size ≤ q → A q := fun q h => by rw [← hAe]; exact Or.inr h
  have hS : va_S A s.heap s.heap [] := va_S.rf
  have hl := lv_entry ([.ref t, .ref bk, .ref tp, .ref u, .ref w]) (n := 6) (Nat.le_of_ble_eq_true rfl)
  rw [lg_entry_eq]
  generalize (lg_sl ([.ref t, .ref bk, .ref tp, .ref u, .ref w]) ++ List.replicate (6 - (lg_sl ([.ref t, .ref bk, .ref tp, .ref u, .ref w])).length) Slot.unset).toArray = ls at hl ⊢
  have hl : lv_has ls 6 [(0, .ref t), (1, .ref bk), (2, .ref tp), (3, .ref u), (4, .ref w)] := hl
  refine lv_aload_n hx hb dX2_doWhole_0 rfl (lv_at hl 0 rfl) ?_
  refine lv_aload_n hx hb dX2_doWhole_1 rfl (lv_at hl 1 rfl) ?_
  refine lv_aload_n hx hb dX2_doWhole_2 rfl (lv_at hl 2 rfl) ?_
  refine lv_iconst (v := 0) hx hb dX2_doWhole_3 (by decide) ?_
  refine lv_aload hx hb dX2_doWhole_4 (lv_at hl 4 rfl) ?_
  refine va_calli (va_runV (As := [.ref bk, .ref tp, .int 0, .ref w]) (rest := []) ⟨hx, hb, hml, hown, hts⟩ (c_X2_start_01 l dC dI g Wd t mk pa ii pl now made nx ma mb na nb nc da db dc pa1 pa2 bk tp h w k0 w0 k1 w1 k2 w2 k3 w3 k4 w4 k5 w5 k7 w7  s.heap.size) (cwV 4 hts gX2_doWhole_X2_start rfl rfl rfl (by decide +kernel) ⟨Nat.le_of_ble_eq_true rfl, Nat.le_of_ble_eq_true rfl⟩) ⟨PG_blind, va_recv hK hP (ci := 4) (q0 := k0) rfl w0, PG_call hK hG hS hP hD (A_all hD hA hS.1)⟩ rfl rfl hl.1 rfl (lv_room (Nat.le_of_ble_eq_true rfl)) dX2_doWhole_6 ⟨Nat.le_of_ble_eq_true rfl, Nat.le_of_ble_eq_true rfl⟩) hS (fun q _ h => (A_all hD hA hS.1) q h) (A_all hD hA hS.1) (fun r_1 u_1 t_1 H_1 L_1 ht_1 hvm_1 hw_1 hB_1 hz_1 hk_1 hS => ?_)
  replace hB_1 := (show va_P (dC, dI) vwCl Wd t_1.heap from hB_1)
  rw [ht_1] at hB_1
  have hP := hB_1
  obtain rfl : r_1 = 0 := hw_1
  refine lv_pop hx hb dX2_doWhole_9 rfl ?_
  refine lv_iconst (v := 0) hx hb dX2_doWhole_10 (by decide) ?_
  refine lv_istore (lv' := [(5, .int 0), (0, .ref t), (1, .ref bk), (2, .ref tp), (3, .ref u), (4, .ref w)]) hx hb dX2_doWhole_11 hl (by decide) rfl (fun ls hl => ?_)
  refine lv_iload hx hb dX2_doWhole_13 (lv_at hl 0 rfl) ?_
  refine lv_sipush (v := 200) hx hb dX2_doWhole_15 (by decide) ?_
  refine lv_icmp_ge (tgt := 38) hx hb dX2_doWhole_18 (by decide) (fun c_2 => absurd c_2 (by decide)) (fun c_2 => ?_)
  refine lv_aload_n hx hb dX2_doWhole_21 rfl (lv_at hl 1 rfl) ?_
  refine va_calli (va_runV (As := []) (rest := []) ⟨hx, hb, hml, hown, hts⟩ (c_X2_isOver l dC dI g Wd t mk pa ii pl now made nx na nb nc 0 k0 w0 k2 w2  H_1.size) (cwV 0 hts gX2_doWhole_X2_isOver rfl rfl rfl (by decide +kernel) ⟨Nat.le_of_ble_eq_true rfl, Nat.le_of_ble_eq_true rfl⟩) ⟨PG_blind, va_recv hK hP (ci := 4) (q0 := k0) rfl w0, PG_call hK hG hS hP hD (A_all hD hA hS.1)⟩ rfl rfl hl.1 rfl (lv_room (Nat.le_of_ble_eq_true rfl)) dX2_doWhole_22 ⟨Nat.le_of_ble_eq_true rfl, Nat.le_of_ble_eq_true rfl⟩) hS (fun q _ h => (A_all hD hA hS.1) q h) (A_all hD hA hS.1) (fun r_3 u_3 t_3 H_3 L_3 ht_3 hvm_3 hw_3 hB_3 hz_3 hk_3 hS => ?_)
  replace hB_3 := (show va_P (dC, dI) vwCl Wd t_3.heap from hB_3)
  rw [ht_3] at hB_3
  have hP := hB_3
  obtain rfl : r_3 = 1 := hw_3
  refine lv_if_ne (tgt := 38) hx hb dX2_doWhole_25 (by decide) (fun c_4 => ?_) (fun c_4 => absurd c_4 (by decide))
  refine lv_aload_n hx hb dX2_doWhole_38 rfl (lv_at hl 1 rfl) ?_
  refine lv_aload_n hx hb dX2_doWhole_39 rfl (lv_at hl 4 rfl) ?_
  refine va_callv (va_runV (As := [.ref u]) (rest := []) ⟨hx, hb, hml, hown, hts⟩ (c_X2_writeTo l dC dI g Wd t mk pa ii pl now made nx na nb nc u hu 0 k0 w0 k2 w2 k6 w6  H_3.size) (cwV 1 hts gX2_doWhole_X2_writeTo rfl rfl rfl (by decide +kernel) ⟨Nat.le_of_ble_eq_true rfl, Nat.le_of_ble_eq_true rfl⟩) ⟨PG_blind, va_recv hK hP (ci := 4) (q0 := k0) rfl w0, PG_call hK hG hS hP hD (A_all hD hA hS.1)⟩ rfl rfl hl.1 rfl (lv_room (Nat.le_of_ble_eq_true rfl)) dX2_doWhole_40 ⟨Nat.le_of_ble_eq_true rfl, Nat.le_of_ble_eq_true rfl⟩) hS (fun q _ h => (A_all hD hA hS.1) q h) (A_all hD hA hS.1) (fun u_5 t_5 H_5 L_5 ht_5 hvm_5 hw_5 hB_5 hz_5 hk_5 hS => ?_)
  replace hB_5 := (show va_P (dC, dI) vwCl Wd t_5.heap from hB_5)
  rw [ht_5] at hB_5
  have hP := hB_5
  exact W.vret hx hb hr (fun t ht hW => ⟨⟨(), rfl, trivial, P_at ht hP⟩, hS.F ht⟩) hS.2.2 dX2_doWhole_43
set_option maxHeartbeats 4000000 in
set_option maxRecDepth 100000 in
theorem c_X2_start_02 (l : Launch) (dC : Nat → ClassId) (dI : Nat → Nat → Nat) (g : Nat → ClassId) (Wd : va_W) (t : Nat) (mk : Nat) (pa : Nat) (ii : Nat) (pl : Nat) (now : Nat) (made : Nat) (nx : Nat) (ma : Nat) (mb : Nat) (na : Nat) (nb : Nat) (nc : Nat) (da : Nat) (db : Nat) (dc : Nat) (pa1 : Nat) (pa2 : Nat) (bk : Nat) (tp : Nat) (h : Nat) (w : Nat) (k0 : Nat) (w0 : Wd[k0]? = some (t, .inr (4, [.ref mk, .ref pa, .ref ii, .ref pl, .int 0, .ref now, .ref made, .ref nx, .int 0, .int 0, .int 0, .int 0, .int 0, .int 0, .int 0]))) (k1 : Nat) (w1 : Wd[k1]? = some (mk, .inr (8, [.ref ma, .ref mb, .int 0]))) (k2 : Nat) (w2 : Wd[k2]? = some (now, .inr (9, [.ref na, .ref nb, .ref nc, .int 0, .int 0]))) (k3 : Nat) (w3 : Wd[k3]? = some (made, .inr (9, [.ref da, .ref db, .ref dc, .int 0, .int 0]))) (k4 : Nat) (w4 : Wd[k4]? = some (pa, .inr (5, [.ref pa1, .ref pa2, .int 2, .int 2, .int 0, .int 0]))) (k5 : Nat) (w5 : Wd[k5]? = some (tp, .inr (11, [.ref h, .int 0]))) (k6 : Nat) (w6 : Wd[k6]? = some (w, .inr (10, [.int 0, .int 0, .int 4, .int 2, .int 2]))) (sz : Nat) : Met l yX2_start wsX2_start ({ frames := 2, cells := 0, slots := 0, locals := 52 }) (va_Pc [.ref t, .ref bk, .ref tp, .int 0, .ref w] (PG (dC, dI) g Wd sz)) (va_Qi (fun (r : Int32) (_ : Unit) => r = 0) (fun (_ : Unit) t => va_P (dC, dI) vwCl Wd t.heap) (va_A Wd sz)) 0 0 (va_A Wd sz) := by
  refine Met.ofW (cc := cX2_start) (maxL := 8) (ret := (some .int)) (by decide) rfl ?_
  intro p e s m args below meth c s₁ B hml hv
  obtain ⟨rfl, hsz, hP, hK, hD0, hG⟩ := hv
  have hx := B.exec
  have hb := B.bytes
  have hr := B.returns
  have hts := atoms_spec (ws := wsX2_start) B.pre
  have hown : s.vm.findClass RX2 = some m.cls := findClass_of_methodNamed B.named
  have hlocks := B.notSynchronized
  subst hsz
  have hD := hD0.self (sz := s.heap.size)
  generalize hAe : va_A Wd s.heap.size = A at hD hG ⊢
  have hA : ∀ q : Nat, s.heap.size ≤ q → A q := fun q h => by rw [← hAe]; exact Or.inr h
  have hS : va_S A s.heap s.heap [] := va_S.rf
  have hl := lv_entry ([.ref t, .ref bk, .ref tp, .int 0, .ref w]) (n := 8) (Nat.le_of_ble_eq_true rfl)
  rw [lg_entry_eq]
  generalize (lg_sl ([.ref t, .ref bk, .ref tp, .int 0, .ref w]) ++ List.replicate (8 - (lg_sl ([.ref t, .ref bk, .ref tp, .int 0, .ref w])).length) Slot.unset).toArray = ls at hl ⊢
  have hl : lv_has ls 8 [(0, .ref t), (1, .ref bk), (2, .ref tp), (3, .int 0), (4, .ref w)] := hl
  have hf12 := hts (Cond.fieldLink RX2 12 "RunmergeOffice$Job" "maker" "LRunmergeOffice$RunMaker;") (by decide +kernel)
  have hiX2 : ∀ w ∈ u_ws RX2 TX2 15, w ∈ wsX2_start := by decide +kernel
  have hf39 := hts (Cond.fieldLink RX2 39 "RunmergeOffice$Job" "now" "LRunmergeOffice$RunRow;") (by decide +kernel)
  have hiX7 : ∀ w ∈ u_ws RX7 TX7 5, w ∈ wsX2_start := by decide +kernel
  have hf21 := hts (Cond.fieldLink RX2 21 "RunmergeOffice$Job" "pass" "LRunmergeOffice$Pass;") (by decide +kernel)
  have hf43 := hts (Cond.fieldLink RX2 43 "RunmergeOffice$Job" "made" "LRunmergeOffice$RunRow;") (by decide +kernel)
  have hf49 := hts (Cond.fieldLink RX2 49 "RunmergeOffice$Job" "target" "I") (by decide +kernel)
  have hf52 := hts (Cond.fieldLink RX2 52 "RunmergeOffice$Job" "passes" "I") (by decide +kernel)
  have hf55 := hts (Cond.fieldLink RX2 55 "RunmergeOffice$Job" "merges" "I") (by decide +kernel)
  have hiX9 : ∀ w ∈ u_ws RX9 TX9 2, w ∈ wsX2_start := by decide +kernel
  have hf58 := hts (Cond.fieldLink RX2 58 "RunmergeOffice$Job" "moves" "I") (by decide +kernel)
  have hf61 := hts (Cond.fieldLink RX2 61 "RunmergeOffice$Job" "movesOfPass" "I") (by decide +kernel)
  have hf64 := hts (Cond.fieldLink RX2 64 "RunmergeOffice$Job" "lostMoves" "I") (by decide +kernel)
  have hf67 := hts (Cond.fieldLink RX2 67 "RunmergeOffice$Job" "timesTorn" "I") (by decide +kernel)
  refine lv_aload_n hx hb dX2_start_0 rfl (lv_at hl 0 rfl) ?_
  refine va_get (D := (dC, dI)) (ci := 4) (v := .ref mk) (C := RX2) (T := TX2) (N := 15) hx hb hts hiX2 hown hK hP k0 w0 rfl 0 (by decide) hf12 (fun _ h9 => h9) rfl dX2_start_1 ?_
  refine lv_aload_n hx hb dX2_start_4 rfl (lv_at hl 1 rfl) ?_
  refine lv_aload_n hx hb dX2_start_5 rfl (lv_at hl 2 rfl) ?_
  refine lv_aload hx hb dX2_start_6 (lv_at hl 4 rfl) ?_
  refine lv_aload_n hx hb dX2_start_8 rfl (lv_at hl 0 rfl) ?_
  refine va_get (D := (dC, dI)) (ci := 4) (v := .ref now) (C := RX2) (T := TX2) (N := 15) hx hb hts hiX2 hown hK hP k0 w0 rfl 5 (by decide) hf39 (fun _ h9 => h9) rfl dX2_start_9 ?_
  refine va_callv (va_runV (As := [.ref bk, .ref tp, .ref w, .ref now]) (rest := []) ⟨hx, hb, hml, hown, hts⟩ (c_X6_makeRuns_0 l dC dI g Wd mk ma mb bk tp h w now na nb nc 2 k1 w1 k5 w5 k6 w6 k2 w2  s.heap.size) (cwV 4 hts gX2_start_X6_makeRuns rfl rfl rfl (by decide +kernel) ⟨Nat.le_of_ble_eq_true rfl, Nat.le_of_ble_eq_true rfl⟩) ⟨PG_blind, va_recv hK hP (ci := 8) (q0 := k1) rfl w1, PG_call hK hG hS hP hD (A_all hD hA hS.1)⟩ rfl rfl hl.1 rfl (lv_room (Nat.le_of_ble_eq_true rfl)) dX2_start_12 ⟨Nat.le_of_ble_eq_true rfl, Nat.le_of_ble_eq_true rfl⟩) hS (fun q _ h => (A_all hD hA hS.1) q h) (A_all hD hA hS.1) (fun u_1 t_1 H_1 L_1 ht_1 hvm_1 hw_1 hB_1 hz_1 hk_1 hS => ?_)
  replace hB_1 := (show va_P (dC, dI) vwCl Wd t_1.heap from hB_1)
  rw [ht_1] at hB_1
  have hP := hB_1
  refine lv_aload_n hx hb dX2_start_15 rfl (lv_at hl 0 rfl) ?_
  refine va_get (D := (dC, dI)) (ci := 4) (v := .ref now) (C := RX2) (T := TX2) (N := 15) hx hb hts hiX2 hown hK hP k0 w0 rfl 5 (by decide) hf39 (fun _ h9 => h9) rfl dX2_start_16 ?_
  refine va_getN (D := (dC, dI)) (ci := 9) (v := .int 0) (C := RX7) (T := TX7) (N := 5) hx hb hts hiX7 hown hK hP k2 w2 rfl 3 (by decide) (nf_27 hG) (fun _ h9 => h9) rfl dX2_start_19 ?_
  refine lv_istore (lv' := [(5, .int 0), (0, .ref t), (1, .ref bk), (2, .ref tp), (3, .int 0), (4, .ref w)]) hx hb dX2_start_22 hl (by decide) rfl (fun ls hl => ?_)
  refine lv_aload_n hx hb dX2_start_24 rfl (lv_at hl 1 rfl) ?_
  refine va_get (D := (dC, dI)) (ci := 4) (v := .ref pa) (C := RX2) (T := TX2) (N := 15) hx hb hts hiX2 hown hK hP k0 w0 rfl 1 (by decide) hf21 (fun _ h9 => h9) rfl dX2_start_25 ?_
  refine lv_aload hx hb dX2_start_28 (lv_at hl 5 rfl) ?_
  refine lv_iload hx hb dX2_start_30 (lv_at hl 0 rfl) ?_
  refine va_calli (va_runV (As := [.ref w, .int 0]) (rest := []) ⟨hx, hb, hml, hown, hts⟩ (c_X3_arrange_2 l dC dI g Wd pa pa1 pa2 w 0 k4 w4 k6 w6  H_1.size) (cwV 2 hts gX2_start_X3_arrange rfl rfl rfl (by decide +kernel) ⟨Nat.le_of_ble_eq_true rfl, Nat.le_of_ble_eq_true rfl⟩) ⟨PG_blind, va_recv hK hP (ci := 5) (q0 := k4) rfl w4, PG_call hK hG hS hP hD (A_all hD hA hS.1)⟩ rfl rfl hl.1 rfl (lv_room (Nat.le_of_ble_eq_true rfl)) dX2_start_32 ⟨Nat.le_of_ble_eq_true rfl, Nat.le_of_ble_eq_true rfl⟩) hS (fun q _ h => (A_all hD hA hS.1) q h) (A_all hD hA hS.1) (fun r_2 u_2 t_2 H_2 L_2 ht_2 hvm_2 hw_2 hB_2 hz_2 hk_2 hS => ?_)
  replace hB_2 := (show va_P (dC, dI) vwCl Wd t_2.heap from hB_2)
  rw [ht_2] at hB_2
  have hP := hB_2
  obtain rfl : r_2 = 0 := hw_2
  refine lv_istore (lv' := [(6, .int 0), (5, .int 0), (0, .ref t), (1, .ref bk), (2, .ref tp), (3, .int 0), (4, .ref w)]) hx hb dX2_start_35 hl (by decide) rfl (fun ls hl => ?_)
  refine lv_iload hx hb dX2_start_37 (lv_at hl 1 rfl) ?_
  refine lv_istore (lv' := [(7, .int 0), (6, .int 0), (5, .int 0), (0, .ref t), (1, .ref bk), (2, .ref tp), (3, .int 0), (4, .ref w)]) hx hb dX2_start_39 hl (by decide) rfl (fun ls hl => ?_)
  refine lv_iload hx hb dX2_start_41 (lv_at hl 0 rfl) ?_
  refine lv_iload hx hb dX2_start_43 (lv_at hl 1 rfl) ?_
  refine lv_icmp_ge (tgt := 61) hx hb dX2_start_45 (by decide) (fun c_3 => ?_) (fun c_3 => absurd (by decide) c_3)
  refine lv_aload_n hx hb dX2_start_61 rfl (lv_at hl 3 rfl) ?_
  refine va_get (D := (dC, dI)) (ci := 4) (v := .ref made) (C := RX2) (T := TX2) (N := 15) hx hb hts hiX2 hown hK hP k0 w0 rfl 6 (by decide) hf43 (fun _ h9 => h9) rfl dX2_start_62 ?_
  refine va_callv (va_runV (As := []) (rest := []) ⟨hx, hb, hml, hown, hts⟩ (c_X7_empty l dC dI g Wd made da db dc k3 w3  H_2.size) (cwV 0 hts gX2_start_X7_empty rfl rfl rfl (by decide +kernel) ⟨Nat.le_of_ble_eq_true rfl, Nat.le_of_ble_eq_true rfl⟩) ⟨PG_blind, va_recv hK hP (ci := 9) (q0 := k3) rfl w3, PG_call hK hG hS hP hD (A_all hD hA hS.1)⟩ rfl rfl hl.1 rfl (lv_room (Nat.le_of_ble_eq_true rfl)) dX2_start_65 ⟨Nat.le_of_ble_eq_true rfl, Nat.le_of_ble_eq_true rfl⟩) hS (fun q _ h => (A_all hD hA hS.1) q h) (A_all hD hA hS.1) (fun u_4 t_4 H_4 L_4 ht_4 hvm_4 hw_4 hB_4 hz_4 hk_4 hS => ?_)
  replace hB_4 := (show va_P (dC, dI) vwCl Wd t_4.heap from hB_4)
  rw [ht_4] at hB_4
  have hP := hB_4
  refine lv_aload_n hx hb dX2_start_68 rfl (lv_at hl 3 rfl) ?_
  refine lv_iload_n hx hb dX2_start_69 rfl (lv_at hl 6 rfl) ?_
  refine va_putS (D := (dC, dI)) (ci := 4) (v := .int 0) (ty := .int) (C := RX2) (T := TX2) (N := 15) hx hb hts hiX2 tyX2 tyX2_ok nmX2 hown hK hP hD hS k0 w0 rfl 8 (by decide) hf49 (fun _ h9 => h9) rfl (by decide +kernel) rfl rfl (Nat.le_of_ble_eq_true rfl) rfl dX2_start_70 (fun H_5 L_6 hP hS => ?_)
  refine lv_aload_n hx hb dX2_start_73 rfl (lv_at hl 3 rfl) ?_
  refine lv_iconst (v := 0) hx hb dX2_start_74 (by decide) ?_
  refine va_putS (D := (dC, dI)) (ci := 4) (v := .int 0) (ty := .int) (C := RX2) (T := TX2) (N := 15) hx hb hts hiX2 tyX2 tyX2_ok nmX2 hown hK hP hD hS k0 w0 rfl 9 (by decide) hf52 (fun _ h9 => h9) rfl (by decide +kernel) rfl rfl (Nat.le_of_ble_eq_true rfl) rfl dX2_start_75 (fun H_7 L_8 hP hS => ?_)
  refine lv_aload_n hx hb dX2_start_78 rfl (lv_at hl 3 rfl) ?_
  refine lv_iconst (v := 0) hx hb dX2_start_79 (by decide) ?_
  refine va_putS (D := (dC, dI)) (ci := 4) (v := .int 0) (ty := .int) (C := RX2) (T := TX2) (N := 15) hx hb hts hiX2 tyX2 tyX2_ok nmX2 hown hK hP hD hS k0 w0 rfl 10 (by decide) hf55 (fun _ h9 => h9) rfl (by decide +kernel) rfl rfl (Nat.le_of_ble_eq_true rfl) rfl dX2_start_80 (fun H_9 L_10 hP hS => ?_)
  refine lv_aload_n hx hb dX2_start_83 rfl (lv_at hl 3 rfl) ?_
  refine lv_aload_n hx hb dX2_start_84 rfl (lv_at hl 5 rfl) ?_
  refine va_getN (D := (dC, dI)) (ci := 11) (v := .int 0) (C := RX9) (T := TX9) (N := 2) hx hb hts hiX9 hown hK hP k5 w5 rfl 1 (by decide) (nf_1 hG) (fun _ h9 => h9) rfl dX2_start_85 ?_
  refine va_putS (D := (dC, dI)) (ci := 4) (v := .int 0) (ty := .int) (C := RX2) (T := TX2) (N := 15) hx hb hts hiX2 tyX2 tyX2_ok nmX2 hown hK hP hD hS k0 w0 rfl 11 (by decide) hf58 (fun _ h9 => h9) rfl (by decide +kernel) rfl rfl (Nat.le_of_ble_eq_true rfl) rfl dX2_start_88 (fun H_11 L_12 hP hS => ?_)
  refine lv_aload_n hx hb dX2_start_91 rfl (lv_at hl 3 rfl) ?_
  refine lv_iconst (v := 0) hx hb dX2_start_92 (by decide) ?_
  refine va_putS (D := (dC, dI)) (ci := 4) (v := .int 0) (ty := .int) (C := RX2) (T := TX2) (N := 15) hx hb hts hiX2 tyX2 tyX2_ok nmX2 hown hK hP hD hS k0 w0 rfl 12 (by decide) hf61 (fun _ h9 => h9) rfl (by decide +kernel) rfl rfl (Nat.le_of_ble_eq_true rfl) rfl dX2_start_93 (fun H_13 L_14 hP hS => ?_)
  refine lv_aload_n hx hb dX2_start_96 rfl (lv_at hl 3 rfl) ?_
  refine lv_iconst (v := 0) hx hb dX2_start_97 (by decide) ?_
  refine va_putS (D := (dC, dI)) (ci := 4) (v := .int 0) (ty := .int) (C := RX2) (T := TX2) (N := 15) hx hb hts hiX2 tyX2 tyX2_ok nmX2 hown hK hP hD hS k0 w0 rfl 13 (by decide) hf64 (fun _ h9 => h9) rfl (by decide +kernel) rfl rfl (Nat.le_of_ble_eq_true rfl) rfl dX2_start_98 (fun H_15 L_16 hP hS => ?_)
  refine lv_aload_n hx hb dX2_start_101 rfl (lv_at hl 3 rfl) ?_
  refine lv_iconst (v := 0) hx hb dX2_start_102 (by decide) ?_
  refine va_putS (D := (dC, dI)) (ci := 4) (v := .int 0) (ty := .int) (C := RX2) (T := TX2) (N := 15) hx hb hts hiX2 tyX2 tyX2_ok nmX2 hown hK hP hD hS k0 w0 rfl 14 (by decide) hf67 (fun _ h9 => h9) rfl (by decide +kernel) rfl rfl (Nat.le_of_ble_eq_true rfl) rfl dX2_start_103 (fun H_17 L_18 hP hS => ?_)
  refine lv_iload hx hb dX2_start_106 (lv_at hl 2 rfl) ?_
  exact W.iret (v := 0) hx hb hr (fun t ht hW => ⟨⟨0, (), rfl, rfl, P_at ht hP⟩, hS.F ht⟩) hS.2.2 dX2_start_108
set_option maxHeartbeats 4000000 in
set_option maxRecDepth 100000 in
theorem c_X2_doWhole_02 (l : Launch) (dC : Nat → ClassId) (dI : Nat → Nat → Nat) (g : Nat → ClassId) (Wd : va_W) (t : Nat) (mk : Nat) (pa : Nat) (ii : Nat) (pl : Nat) (now : Nat) (made : Nat) (nx : Nat) (ma : Nat) (mb : Nat) (na : Nat) (nb : Nat) (nc : Nat) (da : Nat) (db : Nat) (dc : Nat) (pa1 : Nat) (pa2 : Nat) (bk : Nat) (tp : Nat) (h : Nat) (u : Nat) (hu : Nat) (w : Nat) (k0 : Nat) (w0 : Wd[k0]? = some (t, .inr (4, [.ref mk, .ref pa, .ref ii, .ref pl, .int 0, .ref now, .ref made, .ref nx, .int 0, .int 0, .int 0, .int 0, .int 0, .int 0, .int 0]))) (k1 : Nat) (w1 : Wd[k1]? = some (mk, .inr (8, [.ref ma, .ref mb, .int 0]))) (k2 : Nat) (w2 : Wd[k2]? = some (now, .inr (9, [.ref na, .ref nb, .ref nc, .int 0, .int 0]))) (k3 : Nat) (w3 : Wd[k3]? = some (made, .inr (9, [.ref da, .ref db, .ref dc, .int 0, .int 0]))) (k4 : Nat) (w4 : Wd[k4]? = some (pa, .inr (5, [.ref pa1, .ref pa2, .int 2, .int 2, .int 0, .int 0]))) (k5 : Nat) (w5 : Wd[k5]? = some (tp, .inr (11, [.ref h, .int 0]))) (k6 : Nat) (w6 : Wd[k6]? = some (u, .inr (11, [.ref hu, .int 0]))) (k7 : Nat) (w7 : Wd[k7]? = some (w, .inr (10, [.int 0, .int 0, .int 4, .int 2, .int 2]))) (sz : Nat) : Met l yX2_doWhole wsX2_doWhole ({ frames := 3, cells := 0, slots := 0, locals := 79 }) (va_Pc [.ref t, .ref bk, .ref tp, .ref u, .ref w] (PG (dC, dI) g Wd sz)) (va_Qv (fun (_ : Unit) => True) (fun (_ : Unit) t => va_P (dC, dI) vwCl Wd t.heap) (va_A Wd sz)) 0 0 (va_A Wd sz) := by
  refine Met.ofW (cc := cX2_doWhole) (maxL := 6) (ret := none) (by decide) rfl ?_
  intro p e s m args below meth c s₁ B hml hv
  obtain ⟨rfl, hsz, hP, hK, hD0, hG⟩ := hv
  have hx := B.exec
  have hb := B.bytes
  have hr := B.returns
  have hts := atoms_spec (ws := wsX2_doWhole) B.pre
  have hown : s.vm.findClass RX2 = some m.cls := findClass_of_methodNamed B.named
  have hlocks := B.notSynchronized
  subst hsz
  have hD := hD0.self (sz := s.heap.size)
  generalize hAe : va_A Wd s.heap.size = A at hD hG ⊢
  have hA : ∀ q : Nat, s.heap.size ≤ q → A q := fun q h => by rw [← hAe]; exact Or.inr h
  have hS : va_S A s.heap s.heap [] := va_S.rf
  have hl := lv_entry ([.ref t, .ref bk, .ref tp, .ref u, .ref w]) (n := 6) (Nat.le_of_ble_eq_true rfl)
  rw [lg_entry_eq]
  generalize (lg_sl ([.ref t, .ref bk, .ref tp, .ref u, .ref w]) ++ List.replicate (6 - (lg_sl ([.ref t, .ref bk, .ref tp, .ref u, .ref w])).length) Slot.unset).toArray = ls at hl ⊢
  have hl : lv_has ls 6 [(0, .ref t), (1, .ref bk), (2, .ref tp), (3, .ref u), (4, .ref w)] := hl
  refine lv_aload_n hx hb dX2_doWhole_0 rfl (lv_at hl 0 rfl) ?_
  refine lv_aload_n hx hb dX2_doWhole_1 rfl (lv_at hl 1 rfl) ?_
  refine lv_aload_n hx hb dX2_doWhole_2 rfl (lv_at hl 2 rfl) ?_
  refine lv_iconst (v := 0) hx hb dX2_doWhole_3 (by decide) ?_
  refine lv_aload hx hb dX2_doWhole_4 (lv_at hl 4 rfl) ?_
  refine va_calli (va_runV (As := [.ref bk, .ref tp, .int 0, .ref w]) (rest := []) ⟨hx, hb, hml, hown, hts⟩ (c_X2_start_02 l dC dI g Wd t mk pa ii pl now made nx ma mb na nb nc da db dc pa1 pa2 bk tp h w k0 w0 k1 w1 k2 w2 k3 w3 k4 w4 k5 w5 k7 w7  s.heap.size) (cwV 4 hts gX2_doWhole_X2_start rfl rfl rfl (by decide +kernel) ⟨Nat.le_of_ble_eq_true rfl, Nat.le_of_ble_eq_true rfl⟩) ⟨PG_blind, va_recv hK hP (ci := 4) (q0 := k0) rfl w0, PG_call hK hG hS hP hD (A_all hD hA hS.1)⟩ rfl rfl hl.1 rfl (lv_room (Nat.le_of_ble_eq_true rfl)) dX2_doWhole_6 ⟨Nat.le_of_ble_eq_true rfl, Nat.le_of_ble_eq_true rfl⟩) hS (fun q _ h => (A_all hD hA hS.1) q h) (A_all hD hA hS.1) (fun r_1 u_1 t_1 H_1 L_1 ht_1 hvm_1 hw_1 hB_1 hz_1 hk_1 hS => ?_)
  replace hB_1 := (show va_P (dC, dI) vwCl Wd t_1.heap from hB_1)
  rw [ht_1] at hB_1
  have hP := hB_1
  obtain rfl : r_1 = 0 := hw_1
  refine lv_pop hx hb dX2_doWhole_9 rfl ?_
  refine lv_iconst (v := 0) hx hb dX2_doWhole_10 (by decide) ?_
  refine lv_istore (lv' := [(5, .int 0), (0, .ref t), (1, .ref bk), (2, .ref tp), (3, .ref u), (4, .ref w)]) hx hb dX2_doWhole_11 hl (by decide) rfl (fun ls hl => ?_)
  refine lv_iload hx hb dX2_doWhole_13 (lv_at hl 0 rfl) ?_
  refine lv_sipush (v := 200) hx hb dX2_doWhole_15 (by decide) ?_
  refine lv_icmp_ge (tgt := 38) hx hb dX2_doWhole_18 (by decide) (fun c_2 => absurd c_2 (by decide)) (fun c_2 => ?_)
  refine lv_aload_n hx hb dX2_doWhole_21 rfl (lv_at hl 1 rfl) ?_
  refine va_calli (va_runV (As := []) (rest := []) ⟨hx, hb, hml, hown, hts⟩ (c_X2_isOver l dC dI g Wd t mk pa ii pl now made nx na nb nc 0 k0 w0 k2 w2  H_1.size) (cwV 0 hts gX2_doWhole_X2_isOver rfl rfl rfl (by decide +kernel) ⟨Nat.le_of_ble_eq_true rfl, Nat.le_of_ble_eq_true rfl⟩) ⟨PG_blind, va_recv hK hP (ci := 4) (q0 := k0) rfl w0, PG_call hK hG hS hP hD (A_all hD hA hS.1)⟩ rfl rfl hl.1 rfl (lv_room (Nat.le_of_ble_eq_true rfl)) dX2_doWhole_22 ⟨Nat.le_of_ble_eq_true rfl, Nat.le_of_ble_eq_true rfl⟩) hS (fun q _ h => (A_all hD hA hS.1) q h) (A_all hD hA hS.1) (fun r_3 u_3 t_3 H_3 L_3 ht_3 hvm_3 hw_3 hB_3 hz_3 hk_3 hS => ?_)
  replace hB_3 := (show va_P (dC, dI) vwCl Wd t_3.heap from hB_3)
  rw [ht_3] at hB_3
  have hP := hB_3
  obtain rfl : r_3 = 1 := hw_3
  refine lv_if_ne (tgt := 38) hx hb dX2_doWhole_25 (by decide) (fun c_4 => ?_) (fun c_4 => absurd c_4 (by decide))
  refine lv_aload_n hx hb dX2_doWhole_38 rfl (lv_at hl 1 rfl) ?_
  refine lv_aload_n hx hb dX2_doWhole_39 rfl (lv_at hl 4 rfl) ?_
  refine va_callv (va_runV (As := [.ref u]) (rest := []) ⟨hx, hb, hml, hown, hts⟩ (c_X2_writeTo l dC dI g Wd t mk pa ii pl now made nx na nb nc u hu 0 k0 w0 k2 w2 k6 w6  H_3.size) (cwV 1 hts gX2_doWhole_X2_writeTo rfl rfl rfl (by decide +kernel) ⟨Nat.le_of_ble_eq_true rfl, Nat.le_of_ble_eq_true rfl⟩) ⟨PG_blind, va_recv hK hP (ci := 4) (q0 := k0) rfl w0, PG_call hK hG hS hP hD (A_all hD hA hS.1)⟩ rfl rfl hl.1 rfl (lv_room (Nat.le_of_ble_eq_true rfl)) dX2_doWhole_40 ⟨Nat.le_of_ble_eq_true rfl, Nat.le_of_ble_eq_true rfl⟩) hS (fun q _ h => (A_all hD hA hS.1) q h) (A_all hD hA hS.1) (fun u_5 t_5 H_5 L_5 ht_5 hvm_5 hw_5 hB_5 hz_5 hk_5 hS => ?_)
  replace hB_5 := (show va_P (dC, dI) vwCl Wd t_5.heap from hB_5)
  rw [ht_5] at hB_5
  have hP := hB_5
  exact W.vret hx hb hr (fun t ht hW => ⟨⟨(), rfl, trivial, P_at ht hP⟩, hS.F ht⟩) hS.2.2 dX2_doWhole_43
set_option maxHeartbeats 4000000 in
set_option maxRecDepth 100000 in
theorem c_X2_start_10 (l : Launch) (dC : Nat → ClassId) (dI : Nat → Nat → Nat) (g : Nat → ClassId) (Wd : va_W) (t : Nat) (mk : Nat) (pa : Nat) (ii : Nat) (pl : Nat) (now : Nat) (made : Nat) (nx : Nat) (ma : Nat) (mb : Nat) (na : Nat) (nb : Nat) (nc : Nat) (da : Nat) (db : Nat) (dc : Nat) (pa1 : Nat) (pa2 : Nat) (bk : Nat) (tp : Nat) (h : Nat) (w : Nat) (k0 : Nat) (w0 : Wd[k0]? = some (t, .inr (4, [.ref mk, .ref pa, .ref ii, .ref pl, .int 0, .ref now, .ref made, .ref nx, .int 0, .int 0, .int 0, .int 0, .int 0, .int 0, .int 0]))) (k1 : Nat) (w1 : Wd[k1]? = some (mk, .inr (8, [.ref ma, .ref mb, .int 0]))) (k2 : Nat) (w2 : Wd[k2]? = some (now, .inr (9, [.ref na, .ref nb, .ref nc, .int 0, .int 0]))) (k3 : Nat) (w3 : Wd[k3]? = some (made, .inr (9, [.ref da, .ref db, .ref dc, .int 0, .int 0]))) (k4 : Nat) (w4 : Wd[k4]? = some (pa, .inr (5, [.ref pa1, .ref pa2, .int 0, .int 2, .int 0, .int 0]))) (k5 : Nat) (w5 : Wd[k5]? = some (tp, .inr (11, [.ref h, .int 0]))) (k6 : Nat) (w6 : Wd[k6]? = some (w, .inr (10, [.int 0, .int 1, .int 4, .int 0, .int 2]))) (sz : Nat) : Met l yX2_start wsX2_start ({ frames := 2, cells := 0, slots := 0, locals := 56 }) (va_Pc [.ref t, .ref bk, .ref tp, .int 0, .ref w] (PG (dC, dI) g Wd sz)) (va_Qi (fun (r : Int32) (_ : Unit) => r = 0) (fun (_ : Unit) t => va_P (dC, dI) vwCl Wd t.heap) (va_A Wd sz)) 0 0 (va_A Wd sz) := by
  refine Met.ofW (cc := cX2_start) (maxL := 8) (ret := (some .int)) (by decide) rfl ?_
  intro p e s m args below meth c s₁ B hml hv
  obtain ⟨rfl, hsz, hP, hK, hD0, hG⟩ := hv
  have hx := B.exec
  have hb := B.bytes
  have hr := B.returns
  have hts := atoms_spec (ws := wsX2_start) B.pre
  have hown : s.vm.findClass RX2 = some m.cls := findClass_of_methodNamed B.named
  have hlocks := B.notSynchronized
  subst hsz
  have hD := hD0.self (sz := s.heap.size)
  generalize hAe : va_A Wd s.heap.size = A at hD hG ⊢
  have hA : ∀ q : Nat, s.heap.size ≤ q → A q := fun q h => by rw [← hAe]; exact Or.inr h
  have hS : va_S A s.heap s.heap [] := va_S.rf
  have hl := lv_entry ([.ref t, .ref bk, .ref tp, .int 0, .ref w]) (n := 8) (Nat.le_of_ble_eq_true rfl)
  rw [lg_entry_eq]
  generalize (lg_sl ([.ref t, .ref bk, .ref tp, .int 0, .ref w]) ++ List.replicate (8 - (lg_sl ([.ref t, .ref bk, .ref tp, .int 0, .ref w])).length) Slot.unset).toArray = ls at hl ⊢
  have hl : lv_has ls 8 [(0, .ref t), (1, .ref bk), (2, .ref tp), (3, .int 0), (4, .ref w)] := hl
  have hf12 := hts (Cond.fieldLink RX2 12 "RunmergeOffice$Job" "maker" "LRunmergeOffice$RunMaker;") (by decide +kernel)
  have hiX2 : ∀ w ∈ u_ws RX2 TX2 15, w ∈ wsX2_start := by decide +kernel
  have hf39 := hts (Cond.fieldLink RX2 39 "RunmergeOffice$Job" "now" "LRunmergeOffice$RunRow;") (by decide +kernel)
  have hiX7 : ∀ w ∈ u_ws RX7 TX7 5, w ∈ wsX2_start := by decide +kernel
  have hf21 := hts (Cond.fieldLink RX2 21 "RunmergeOffice$Job" "pass" "LRunmergeOffice$Pass;") (by decide +kernel)
  have hf43 := hts (Cond.fieldLink RX2 43 "RunmergeOffice$Job" "made" "LRunmergeOffice$RunRow;") (by decide +kernel)
  have hf49 := hts (Cond.fieldLink RX2 49 "RunmergeOffice$Job" "target" "I") (by decide +kernel)
  have hf52 := hts (Cond.fieldLink RX2 52 "RunmergeOffice$Job" "passes" "I") (by decide +kernel)
  have hf55 := hts (Cond.fieldLink RX2 55 "RunmergeOffice$Job" "merges" "I") (by decide +kernel)
  have hiX9 : ∀ w ∈ u_ws RX9 TX9 2, w ∈ wsX2_start := by decide +kernel
  have hf58 := hts (Cond.fieldLink RX2 58 "RunmergeOffice$Job" "moves" "I") (by decide +kernel)
  have hf61 := hts (Cond.fieldLink RX2 61 "RunmergeOffice$Job" "movesOfPass" "I") (by decide +kernel)
  have hf64 := hts (Cond.fieldLink RX2 64 "RunmergeOffice$Job" "lostMoves" "I") (by decide +kernel)
  have hf67 := hts (Cond.fieldLink RX2 67 "RunmergeOffice$Job" "timesTorn" "I") (by decide +kernel)
  refine lv_aload_n hx hb dX2_start_0 rfl (lv_at hl 0 rfl) ?_
  refine va_get (D := (dC, dI)) (ci := 4) (v := .ref mk) (C := RX2) (T := TX2) (N := 15) hx hb hts hiX2 hown hK hP k0 w0 rfl 0 (by decide) hf12 (fun _ h9 => h9) rfl dX2_start_1 ?_
  refine lv_aload_n hx hb dX2_start_4 rfl (lv_at hl 1 rfl) ?_
  refine lv_aload_n hx hb dX2_start_5 rfl (lv_at hl 2 rfl) ?_
  refine lv_aload hx hb dX2_start_6 (lv_at hl 4 rfl) ?_
  refine lv_aload_n hx hb dX2_start_8 rfl (lv_at hl 0 rfl) ?_
  refine va_get (D := (dC, dI)) (ci := 4) (v := .ref now) (C := RX2) (T := TX2) (N := 15) hx hb hts hiX2 hown hK hP k0 w0 rfl 5 (by decide) hf39 (fun _ h9 => h9) rfl dX2_start_9 ?_
  refine va_callv (va_runV (As := [.ref bk, .ref tp, .ref w, .ref now]) (rest := []) ⟨hx, hb, hml, hown, hts⟩ (c_X6_makeRuns_1 l dC dI g Wd mk ma mb bk tp h w now na nb nc 0 k1 w1 k5 w5 k6 w6 k2 w2  s.heap.size) (cwV 4 hts gX2_start_X6_makeRuns rfl rfl rfl (by decide +kernel) ⟨Nat.le_of_ble_eq_true rfl, Nat.le_of_ble_eq_true rfl⟩) ⟨PG_blind, va_recv hK hP (ci := 8) (q0 := k1) rfl w1, PG_call hK hG hS hP hD (A_all hD hA hS.1)⟩ rfl rfl hl.1 rfl (lv_room (Nat.le_of_ble_eq_true rfl)) dX2_start_12 ⟨Nat.le_of_ble_eq_true rfl, Nat.le_of_ble_eq_true rfl⟩) hS (fun q _ h => (A_all hD hA hS.1) q h) (A_all hD hA hS.1) (fun u_1 t_1 H_1 L_1 ht_1 hvm_1 hw_1 hB_1 hz_1 hk_1 hS => ?_)
  replace hB_1 := (show va_P (dC, dI) vwCl Wd t_1.heap from hB_1)
  rw [ht_1] at hB_1
  have hP := hB_1
  refine lv_aload_n hx hb dX2_start_15 rfl (lv_at hl 0 rfl) ?_
  refine va_get (D := (dC, dI)) (ci := 4) (v := .ref now) (C := RX2) (T := TX2) (N := 15) hx hb hts hiX2 hown hK hP k0 w0 rfl 5 (by decide) hf39 (fun _ h9 => h9) rfl dX2_start_16 ?_
  refine va_getN (D := (dC, dI)) (ci := 9) (v := .int 0) (C := RX7) (T := TX7) (N := 5) hx hb hts hiX7 hown hK hP k2 w2 rfl 3 (by decide) (nf_27 hG) (fun _ h9 => h9) rfl dX2_start_19 ?_
  refine lv_istore (lv' := [(5, .int 0), (0, .ref t), (1, .ref bk), (2, .ref tp), (3, .int 0), (4, .ref w)]) hx hb dX2_start_22 hl (by decide) rfl (fun ls hl => ?_)
  refine lv_aload_n hx hb dX2_start_24 rfl (lv_at hl 1 rfl) ?_
  refine va_get (D := (dC, dI)) (ci := 4) (v := .ref pa) (C := RX2) (T := TX2) (N := 15) hx hb hts hiX2 hown hK hP k0 w0 rfl 1 (by decide) hf21 (fun _ h9 => h9) rfl dX2_start_25 ?_
  refine lv_aload hx hb dX2_start_28 (lv_at hl 5 rfl) ?_
  refine lv_iload hx hb dX2_start_30 (lv_at hl 0 rfl) ?_
  refine va_calli (va_runV (As := [.ref w, .int 0]) (rest := []) ⟨hx, hb, hml, hown, hts⟩ (c_X3_arrange_0 l dC dI g Wd pa pa1 pa2 w 1 k4 w4 k6 w6  H_1.size) (cwV 2 hts gX2_start_X3_arrange rfl rfl rfl (by decide +kernel) ⟨Nat.le_of_ble_eq_true rfl, Nat.le_of_ble_eq_true rfl⟩) ⟨PG_blind, va_recv hK hP (ci := 5) (q0 := k4) rfl w4, PG_call hK hG hS hP hD (A_all hD hA hS.1)⟩ rfl rfl hl.1 rfl (lv_room (Nat.le_of_ble_eq_true rfl)) dX2_start_32 ⟨Nat.le_of_ble_eq_true rfl, Nat.le_of_ble_eq_true rfl⟩) hS (fun q _ h => (A_all hD hA hS.1) q h) (A_all hD hA hS.1) (fun r_2 u_2 t_2 H_2 L_2 ht_2 hvm_2 hw_2 hB_2 hz_2 hk_2 hS => ?_)
  replace hB_2 := (show va_P (dC, dI) vwCl Wd t_2.heap from hB_2)
  rw [ht_2] at hB_2
  have hP := hB_2
  obtain rfl : r_2 = 0 := hw_2
  refine lv_istore (lv' := [(6, .int 0), (5, .int 0), (0, .ref t), (1, .ref bk), (2, .ref tp), (3, .int 0), (4, .ref w)]) hx hb dX2_start_35 hl (by decide) rfl (fun ls hl => ?_)
  refine lv_iload hx hb dX2_start_37 (lv_at hl 1 rfl) ?_
  refine lv_istore (lv' := [(7, .int 0), (6, .int 0), (5, .int 0), (0, .ref t), (1, .ref bk), (2, .ref tp), (3, .int 0), (4, .ref w)]) hx hb dX2_start_39 hl (by decide) rfl (fun ls hl => ?_)
  refine lv_iload hx hb dX2_start_41 (lv_at hl 0 rfl) ?_
  refine lv_iload hx hb dX2_start_43 (lv_at hl 1 rfl) ?_
  refine lv_icmp_ge (tgt := 61) hx hb dX2_start_45 (by decide) (fun c_3 => ?_) (fun c_3 => absurd (by decide) c_3)
  refine lv_aload_n hx hb dX2_start_61 rfl (lv_at hl 3 rfl) ?_
  refine va_get (D := (dC, dI)) (ci := 4) (v := .ref made) (C := RX2) (T := TX2) (N := 15) hx hb hts hiX2 hown hK hP k0 w0 rfl 6 (by decide) hf43 (fun _ h9 => h9) rfl dX2_start_62 ?_
  refine va_callv (va_runV (As := []) (rest := []) ⟨hx, hb, hml, hown, hts⟩ (c_X7_empty l dC dI g Wd made da db dc k3 w3  H_2.size) (cwV 0 hts gX2_start_X7_empty rfl rfl rfl (by decide +kernel) ⟨Nat.le_of_ble_eq_true rfl, Nat.le_of_ble_eq_true rfl⟩) ⟨PG_blind, va_recv hK hP (ci := 9) (q0 := k3) rfl w3, PG_call hK hG hS hP hD (A_all hD hA hS.1)⟩ rfl rfl hl.1 rfl (lv_room (Nat.le_of_ble_eq_true rfl)) dX2_start_65 ⟨Nat.le_of_ble_eq_true rfl, Nat.le_of_ble_eq_true rfl⟩) hS (fun q _ h => (A_all hD hA hS.1) q h) (A_all hD hA hS.1) (fun u_4 t_4 H_4 L_4 ht_4 hvm_4 hw_4 hB_4 hz_4 hk_4 hS => ?_)
  replace hB_4 := (show va_P (dC, dI) vwCl Wd t_4.heap from hB_4)
  rw [ht_4] at hB_4
  have hP := hB_4
  refine lv_aload_n hx hb dX2_start_68 rfl (lv_at hl 3 rfl) ?_
  refine lv_iload_n hx hb dX2_start_69 rfl (lv_at hl 6 rfl) ?_
  refine va_putS (D := (dC, dI)) (ci := 4) (v := .int 0) (ty := .int) (C := RX2) (T := TX2) (N := 15) hx hb hts hiX2 tyX2 tyX2_ok nmX2 hown hK hP hD hS k0 w0 rfl 8 (by decide) hf49 (fun _ h9 => h9) rfl (by decide +kernel) rfl rfl (Nat.le_of_ble_eq_true rfl) rfl dX2_start_70 (fun H_5 L_6 hP hS => ?_)
  refine lv_aload_n hx hb dX2_start_73 rfl (lv_at hl 3 rfl) ?_
  refine lv_iconst (v := 0) hx hb dX2_start_74 (by decide) ?_
  refine va_putS (D := (dC, dI)) (ci := 4) (v := .int 0) (ty := .int) (C := RX2) (T := TX2) (N := 15) hx hb hts hiX2 tyX2 tyX2_ok nmX2 hown hK hP hD hS k0 w0 rfl 9 (by decide) hf52 (fun _ h9 => h9) rfl (by decide +kernel) rfl rfl (Nat.le_of_ble_eq_true rfl) rfl dX2_start_75 (fun H_7 L_8 hP hS => ?_)
  refine lv_aload_n hx hb dX2_start_78 rfl (lv_at hl 3 rfl) ?_
  refine lv_iconst (v := 0) hx hb dX2_start_79 (by decide) ?_
  refine va_putS (D := (dC, dI)) (ci := 4) (v := .int 0) (ty := .int) (C := RX2) (T := TX2) (N := 15) hx hb hts hiX2 tyX2 tyX2_ok nmX2 hown hK hP hD hS k0 w0 rfl 10 (by decide) hf55 (fun _ h9 => h9) rfl (by decide +kernel) rfl rfl (Nat.le_of_ble_eq_true rfl) rfl dX2_start_80 (fun H_9 L_10 hP hS => ?_)
  refine lv_aload_n hx hb dX2_start_83 rfl (lv_at hl 3 rfl) ?_
  refine lv_aload_n hx hb dX2_start_84 rfl (lv_at hl 5 rfl) ?_
  refine va_getN (D := (dC, dI)) (ci := 11) (v := .int 0) (C := RX9) (T := TX9) (N := 2) hx hb hts hiX9 hown hK hP k5 w5 rfl 1 (by decide) (nf_1 hG) (fun _ h9 => h9) rfl dX2_start_85 ?_
  refine va_putS (D := (dC, dI)) (ci := 4) (v := .int 0) (ty := .int) (C := RX2) (T := TX2) (N := 15) hx hb hts hiX2 tyX2 tyX2_ok nmX2 hown hK hP hD hS k0 w0 rfl 11 (by decide) hf58 (fun _ h9 => h9) rfl (by decide +kernel) rfl rfl (Nat.le_of_ble_eq_true rfl) rfl dX2_start_88 (fun H_11 L_12 hP hS => ?_)
  refine lv_aload_n hx hb dX2_start_91 rfl (lv_at hl 3 rfl) ?_
  refine lv_iconst (v := 0) hx hb dX2_start_92 (by decide) ?_
  refine va_putS (D := (dC, dI)) (ci := 4) (v := .int 0) (ty := .int) (C := RX2) (T := TX2) (N := 15) hx hb hts hiX2 tyX2 tyX2_ok nmX2 hown hK hP hD hS k0 w0 rfl 12 (by decide) hf61 (fun _ h9 => h9) rfl (by decide +kernel) rfl rfl (Nat.le_of_ble_eq_true rfl) rfl dX2_start_93 (fun H_13 L_14 hP hS => ?_)
  refine lv_aload_n hx hb dX2_start_96 rfl (lv_at hl 3 rfl) ?_
  refine lv_iconst (v := 0) hx hb dX2_start_97 (by decide) ?_
  refine va_putS (D := (dC, dI)) (ci := 4) (v := .int 0) (ty := .int) (C := RX2) (T := TX2) (N := 15) hx hb hts hiX2 tyX2 tyX2_ok nmX2 hown hK hP hD hS k0 w0 rfl 13 (by decide) hf64 (fun _ h9 => h9) rfl (by decide +kernel) rfl rfl (Nat.le_of_ble_eq_true rfl) rfl dX2_start_98 (fun H_15 L_16 hP hS => ?_)
  refine lv_aload_n hx hb dX2_start_101 rfl (lv_at hl 3 rfl) ?_
  refine lv_iconst (v := 0) hx hb dX2_start_102 (by decide) ?_
  refine va_putS (D := (dC, dI)) (ci := 4) (v := .int 0) (ty := .int) (C := RX2) (T := TX2) (N := 15) hx hb hts hiX2 tyX2 tyX2_ok nmX2 hown hK hP hD hS k0 w0 rfl 14 (by decide) hf67 (fun _ h9 => h9) rfl (by decide +kernel) rfl rfl (Nat.le_of_ble_eq_true rfl) rfl dX2_start_103 (fun H_17 L_18 hP hS => ?_)
  refine lv_iload hx hb dX2_start_106 (lv_at hl 2 rfl) ?_
  exact W.iret (v := 0) hx hb hr (fun t ht hW => ⟨⟨0, (), rfl, rfl, P_at ht hP⟩, hS.F ht⟩) hS.2.2 dX2_start_108
set_option maxHeartbeats 4000000 in
set_option maxRecDepth 100000 in
theorem c_X2_doWhole_10 (l : Launch) (dC : Nat → ClassId) (dI : Nat → Nat → Nat) (g : Nat → ClassId) (Wd : va_W) (t : Nat) (mk : Nat) (pa : Nat) (ii : Nat) (pl : Nat) (now : Nat) (made : Nat) (nx : Nat) (ma : Nat) (mb : Nat) (na : Nat) (nb : Nat) (nc : Nat) (da : Nat) (db : Nat) (dc : Nat) (pa1 : Nat) (pa2 : Nat) (bk : Nat) (tp : Nat) (h : Nat) (u : Nat) (hu : Nat) (w : Nat) (k0 : Nat) (w0 : Wd[k0]? = some (t, .inr (4, [.ref mk, .ref pa, .ref ii, .ref pl, .int 0, .ref now, .ref made, .ref nx, .int 0, .int 0, .int 0, .int 0, .int 0, .int 0, .int 0]))) (k1 : Nat) (w1 : Wd[k1]? = some (mk, .inr (8, [.ref ma, .ref mb, .int 0]))) (k2 : Nat) (w2 : Wd[k2]? = some (now, .inr (9, [.ref na, .ref nb, .ref nc, .int 0, .int 0]))) (k3 : Nat) (w3 : Wd[k3]? = some (made, .inr (9, [.ref da, .ref db, .ref dc, .int 0, .int 0]))) (k4 : Nat) (w4 : Wd[k4]? = some (pa, .inr (5, [.ref pa1, .ref pa2, .int 0, .int 2, .int 0, .int 0]))) (k5 : Nat) (w5 : Wd[k5]? = some (tp, .inr (11, [.ref h, .int 0]))) (k6 : Nat) (w6 : Wd[k6]? = some (u, .inr (11, [.ref hu, .int 0]))) (k7 : Nat) (w7 : Wd[k7]? = some (w, .inr (10, [.int 0, .int 1, .int 4, .int 0, .int 2]))) (sz : Nat) : Met l yX2_doWhole wsX2_doWhole ({ frames := 3, cells := 0, slots := 0, locals := 83 }) (va_Pc [.ref t, .ref bk, .ref tp, .ref u, .ref w] (PG (dC, dI) g Wd sz)) (va_Qv (fun (_ : Unit) => True) (fun (_ : Unit) t => va_P (dC, dI) vwCl Wd t.heap) (va_A Wd sz)) 0 0 (va_A Wd sz) := by
  refine Met.ofW (cc := cX2_doWhole) (maxL := 6) (ret := none) (by decide) rfl ?_
  intro p e s m args below meth c s₁ B hml hv
  obtain ⟨rfl, hsz, hP, hK, hD0, hG⟩ := hv
  have hx := B.exec
  have hb := B.bytes
  have hr := B.returns
  have hts := atoms_spec (ws := wsX2_doWhole) B.pre
  have hown : s.vm.findClass RX2 = some m.cls := findClass_of_methodNamed B.named
  have hlocks := B.notSynchronized
  subst hsz
  have hD := hD0.self (sz := s.heap.size)
  generalize hAe : va_A Wd s.heap.size = A at hD hG ⊢
  have hA : ∀ q : Nat, s.heap.size ≤ q → A q := fun q h => by rw [← hAe]; exact Or.inr h
  have hS : va_S A s.heap s.heap [] := va_S.rf
  have hl := lv_entry ([.ref t, .ref bk, .ref tp, .ref u, .ref w]) (n := 6) (Nat.le_of_ble_eq_true rfl)
  rw [lg_entry_eq]
  generalize (lg_sl ([.ref t, .ref bk, .ref tp, .ref u, .ref w]) ++ List.replicate (6 - (lg_sl ([.ref t, .ref bk, .ref tp, .ref u, .ref w])).length) Slot.unset).toArray = ls at hl ⊢
  have hl : lv_has ls 6 [(0, .ref t), (1, .ref bk), (2, .ref tp), (3, .ref u), (4, .ref w)] := hl
  refine lv_aload_n hx hb dX2_doWhole_0 rfl (lv_at hl 0 rfl) ?_
  refine lv_aload_n hx hb dX2_doWhole_1 rfl (lv_at hl 1 rfl) ?_
  refine lv_aload_n hx hb dX2_doWhole_2 rfl (lv_at hl 2 rfl) ?_
  refine lv_iconst (v := 0) hx hb dX2_doWhole_3 (by decide) ?_
  refine lv_aload hx hb dX2_doWhole_4 (lv_at hl 4 rfl) ?_
  refine va_calli (va_runV (As := [.ref bk, .ref tp, .int 0, .ref w]) (rest := []) ⟨hx, hb, hml, hown, hts⟩ (c_X2_start_10 l dC dI g Wd t mk pa ii pl now made nx ma mb na nb nc da db dc pa1 pa2 bk tp h w k0 w0 k1 w1 k2 w2 k3 w3 k4 w4 k5 w5 k7 w7  s.heap.size) (cwV 4 hts gX2_doWhole_X2_start rfl rfl rfl (by decide +kernel) ⟨Nat.le_of_ble_eq_true rfl, Nat.le_of_ble_eq_true rfl⟩) ⟨PG_blind, va_recv hK hP (ci := 4) (q0 := k0) rfl w0, PG_call hK hG hS hP hD (A_all hD hA hS.1)⟩ rfl rfl hl.1 rfl (lv_room (Nat.le_of_ble_eq_true rfl)) dX2_doWhole_6 ⟨Nat.le_of_ble_eq_true rfl, Nat.le_of_ble_eq_true rfl⟩) hS (fun q _ h => (A_all hD hA hS.1) q h) (A_all hD hA hS.1) (fun r_1 u_1 t_1 H_1 L_1 ht_1 hvm_1 hw_1 hB_1 hz_1 hk_1 hS => ?_)
  replace hB_1 := (show va_P (dC, dI) vwCl Wd t_1.heap from hB_1)
  rw [ht_1] at hB_1
  have hP := hB_1
  obtain rfl : r_1 = 0 := hw_1
  refine lv_pop hx hb dX2_doWhole_9 rfl ?_
  refine lv_iconst (v := 0) hx hb dX2_doWhole_10 (by decide) ?_
  refine lv_istore (lv' := [(5, .int 0), (0, .ref t), (1, .ref bk), (2, .ref tp), (3, .ref u), (4, .ref w)]) hx hb dX2_doWhole_11 hl (by decide) rfl (fun ls hl => ?_)
  refine lv_iload hx hb dX2_doWhole_13 (lv_at hl 0 rfl) ?_
  refine lv_sipush (v := 200) hx hb dX2_doWhole_15 (by decide) ?_
  refine lv_icmp_ge (tgt := 38) hx hb dX2_doWhole_18 (by decide) (fun c_2 => absurd c_2 (by decide)) (fun c_2 => ?_)
  refine lv_aload_n hx hb dX2_doWhole_21 rfl (lv_at hl 1 rfl) ?_
  refine va_calli (va_runV (As := []) (rest := []) ⟨hx, hb, hml, hown, hts⟩ (c_X2_isOver l dC dI g Wd t mk pa ii pl now made nx na nb nc 0 k0 w0 k2 w2  H_1.size) (cwV 0 hts gX2_doWhole_X2_isOver rfl rfl rfl (by decide +kernel) ⟨Nat.le_of_ble_eq_true rfl, Nat.le_of_ble_eq_true rfl⟩) ⟨PG_blind, va_recv hK hP (ci := 4) (q0 := k0) rfl w0, PG_call hK hG hS hP hD (A_all hD hA hS.1)⟩ rfl rfl hl.1 rfl (lv_room (Nat.le_of_ble_eq_true rfl)) dX2_doWhole_22 ⟨Nat.le_of_ble_eq_true rfl, Nat.le_of_ble_eq_true rfl⟩) hS (fun q _ h => (A_all hD hA hS.1) q h) (A_all hD hA hS.1) (fun r_3 u_3 t_3 H_3 L_3 ht_3 hvm_3 hw_3 hB_3 hz_3 hk_3 hS => ?_)
  replace hB_3 := (show va_P (dC, dI) vwCl Wd t_3.heap from hB_3)
  rw [ht_3] at hB_3
  have hP := hB_3
  obtain rfl : r_3 = 1 := hw_3
  refine lv_if_ne (tgt := 38) hx hb dX2_doWhole_25 (by decide) (fun c_4 => ?_) (fun c_4 => absurd c_4 (by decide))
  refine lv_aload_n hx hb dX2_doWhole_38 rfl (lv_at hl 1 rfl) ?_
  refine lv_aload_n hx hb dX2_doWhole_39 rfl (lv_at hl 4 rfl) ?_
  refine va_callv (va_runV (As := [.ref u]) (rest := []) ⟨hx, hb, hml, hown, hts⟩ (c_X2_writeTo l dC dI g Wd t mk pa ii pl now made nx na nb nc u hu 0 k0 w0 k2 w2 k6 w6  H_3.size) (cwV 1 hts gX2_doWhole_X2_writeTo rfl rfl rfl (by decide +kernel) ⟨Nat.le_of_ble_eq_true rfl, Nat.le_of_ble_eq_true rfl⟩) ⟨PG_blind, va_recv hK hP (ci := 4) (q0 := k0) rfl w0, PG_call hK hG hS hP hD (A_all hD hA hS.1)⟩ rfl rfl hl.1 rfl (lv_room (Nat.le_of_ble_eq_true rfl)) dX2_doWhole_40 ⟨Nat.le_of_ble_eq_true rfl, Nat.le_of_ble_eq_true rfl⟩) hS (fun q _ h => (A_all hD hA hS.1) q h) (A_all hD hA hS.1) (fun u_5 t_5 H_5 L_5 ht_5 hvm_5 hw_5 hB_5 hz_5 hk_5 hS => ?_)
  replace hB_5 := (show va_P (dC, dI) vwCl Wd t_5.heap from hB_5)
  rw [ht_5] at hB_5
  have hP := hB_5
  exact W.vret hx hb hr (fun t ht hW => ⟨⟨(), rfl, trivial, P_at ht hP⟩, hS.F ht⟩) hS.2.2 dX2_doWhole_43
set_option maxHeartbeats 4000000 in
set_option maxRecDepth 100000 in
theorem c_X2_start_11 (l : Launch) (dC : Nat → ClassId) (dI : Nat → Nat → Nat) (g : Nat → ClassId) (Wd : va_W) (t : Nat) (mk : Nat) (pa : Nat) (ii : Nat) (pl : Nat) (now : Nat) (made : Nat) (nx : Nat) (ma : Nat) (mb : Nat) (na : Nat) (nb : Nat) (nc : Nat) (da : Nat) (db : Nat) (dc : Nat) (pa1 : Nat) (pa2 : Nat) (bk : Nat) (tp : Nat) (h : Nat) (w : Nat) (k0 : Nat) (w0 : Wd[k0]? = some (t, .inr (4, [.ref mk, .ref pa, .ref ii, .ref pl, .int 0, .ref now, .ref made, .ref nx, .int 0, .int 0, .int 0, .int 0, .int 0, .int 0, .int 0]))) (k1 : Nat) (w1 : Wd[k1]? = some (mk, .inr (8, [.ref ma, .ref mb, .int 0]))) (k2 : Nat) (w2 : Wd[k2]? = some (now, .inr (9, [.ref na, .ref nb, .ref nc, .int 0, .int 0]))) (k3 : Nat) (w3 : Wd[k3]? = some (made, .inr (9, [.ref da, .ref db, .ref dc, .int 0, .int 0]))) (k4 : Nat) (w4 : Wd[k4]? = some (pa, .inr (5, [.ref pa1, .ref pa2, .int 1, .int 2, .int 0, .int 0]))) (k5 : Nat) (w5 : Wd[k5]? = some (tp, .inr (11, [.ref h, .int 0]))) (k6 : Nat) (w6 : Wd[k6]? = some (w, .inr (10, [.int 0, .int 1, .int 4, .int 1, .int 2]))) (sz : Nat) : Met l yX2_start wsX2_start ({ frames := 2, cells := 0, slots := 0, locals := 56 }) (va_Pc [.ref t, .ref bk, .ref tp, .int 0, .ref w] (PG (dC, dI) g Wd sz)) (va_Qi (fun (r : Int32) (_ : Unit) => r = 0) (fun (_ : Unit) t => va_P (dC, dI) vwCl Wd t.heap) (va_A Wd sz)) 0 0 (va_A Wd sz) := by
  refine Met.ofW (cc := cX2_start) (maxL := 8) (ret := (some .int)) (by decide) rfl ?_
  intro p e s m args below meth c s₁ B hml hv
  obtain ⟨rfl, hsz, hP, hK, hD0, hG⟩ := hv
  have hx := B.exec
  have hb := B.bytes
  have hr := B.returns
  have hts := atoms_spec (ws := wsX2_start) B.pre
  have hown : s.vm.findClass RX2 = some m.cls := findClass_of_methodNamed B.named
  have hlocks := B.notSynchronized
  subst hsz
  have hD := hD0.self (sz := s.heap.size)
  generalize hAe : va_A Wd s.heap.size = A at hD hG ⊢
  have hA : ∀ q : Nat, s.heap.size ≤ q → A q := fun q h => by rw [← hAe]; exact Or.inr h
  have hS : va_S A s.heap s.heap [] := va_S.rf
  have hl := lv_entry ([.ref t, .ref bk, .ref tp, .int 0, .ref w]) (n := 8) (Nat.le_of_ble_eq_true rfl)
  rw [lg_entry_eq]
  generalize (lg_sl ([.ref t, .ref bk, .ref tp, .int 0, .ref w]) ++ List.replicate (8 - (lg_sl ([.ref t, .ref bk, .ref tp, .int 0, .ref w])).length) Slot.unset).toArray = ls at hl ⊢
  have hl : lv_has ls 8 [(0, .ref t), (1, .ref bk), (2, .ref tp), (3, .int 0), (4, .ref w)] := hl
  have hf12 := hts (Cond.fieldLink RX2 12 "RunmergeOffice$Job" "maker" "LRunmergeOffice$RunMaker;") (by decide +kernel)
  have hiX2 : ∀ w ∈ u_ws RX2 TX2 15, w ∈ wsX2_start := by decide +kernel
  have hf39 := hts (Cond.fieldLink RX2 39 "RunmergeOffice$Job" "now" "LRunmergeOffice$RunRow;") (by decide +kernel)
  have hiX7 : ∀ w ∈ u_ws RX7 TX7 5, w ∈ wsX2_start := by decide +kernel
  have hf21 := hts (Cond.fieldLink RX2 21 "RunmergeOffice$Job" "pass" "LRunmergeOffice$Pass;") (by decide +kernel)
  have hf43 := hts (Cond.fieldLink RX2 43 "RunmergeOffice$Job" "made" "LRunmergeOffice$RunRow;") (by decide +kernel)
  have hf49 := hts (Cond.fieldLink RX2 49 "RunmergeOffice$Job" "target" "I") (by decide +kernel)
  have hf52 := hts (Cond.fieldLink RX2 52 "RunmergeOffice$Job" "passes" "I") (by decide +kernel)
  have hf55 := hts (Cond.fieldLink RX2 55 "RunmergeOffice$Job" "merges" "I") (by decide +kernel)
  have hiX9 : ∀ w ∈ u_ws RX9 TX9 2, w ∈ wsX2_start := by decide +kernel
  have hf58 := hts (Cond.fieldLink RX2 58 "RunmergeOffice$Job" "moves" "I") (by decide +kernel)
  have hf61 := hts (Cond.fieldLink RX2 61 "RunmergeOffice$Job" "movesOfPass" "I") (by decide +kernel)
  have hf64 := hts (Cond.fieldLink RX2 64 "RunmergeOffice$Job" "lostMoves" "I") (by decide +kernel)
  have hf67 := hts (Cond.fieldLink RX2 67 "RunmergeOffice$Job" "timesTorn" "I") (by decide +kernel)
  refine lv_aload_n hx hb dX2_start_0 rfl (lv_at hl 0 rfl) ?_
  refine va_get (D := (dC, dI)) (ci := 4) (v := .ref mk) (C := RX2) (T := TX2) (N := 15) hx hb hts hiX2 hown hK hP k0 w0 rfl 0 (by decide) hf12 (fun _ h9 => h9) rfl dX2_start_1 ?_
  refine lv_aload_n hx hb dX2_start_4 rfl (lv_at hl 1 rfl) ?_
  refine lv_aload_n hx hb dX2_start_5 rfl (lv_at hl 2 rfl) ?_
  refine lv_aload hx hb dX2_start_6 (lv_at hl 4 rfl) ?_
  refine lv_aload_n hx hb dX2_start_8 rfl (lv_at hl 0 rfl) ?_
  refine va_get (D := (dC, dI)) (ci := 4) (v := .ref now) (C := RX2) (T := TX2) (N := 15) hx hb hts hiX2 hown hK hP k0 w0 rfl 5 (by decide) hf39 (fun _ h9 => h9) rfl dX2_start_9 ?_
  refine va_callv (va_runV (As := [.ref bk, .ref tp, .ref w, .ref now]) (rest := []) ⟨hx, hb, hml, hown, hts⟩ (c_X6_makeRuns_1 l dC dI g Wd mk ma mb bk tp h w now na nb nc 1 k1 w1 k5 w5 k6 w6 k2 w2  s.heap.size) (cwV 4 hts gX2_start_X6_makeRuns rfl rfl rfl (by decide +kernel) ⟨Nat.le_of_ble_eq_true rfl, Nat.le_of_ble_eq_true rfl⟩) ⟨PG_blind, va_recv hK hP (ci := 8) (q0 := k1) rfl w1, PG_call hK hG hS hP hD (A_all hD hA hS.1)⟩ rfl rfl hl.1 rfl (lv_room (Nat.le_of_ble_eq_true rfl)) dX2_start_12 ⟨Nat.le_of_ble_eq_true rfl, Nat.le_of_ble_eq_true rfl⟩) hS (fun q _ h => (A_all hD hA hS.1) q h) (A_all hD hA hS.1) (fun u_1 t_1 H_1 L_1 ht_1 hvm_1 hw_1 hB_1 hz_1 hk_1 hS => ?_)
  replace hB_1 := (show va_P (dC, dI) vwCl Wd t_1.heap from hB_1)
  rw [ht_1] at hB_1
  have hP := hB_1
  refine lv_aload_n hx hb dX2_start_15 rfl (lv_at hl 0 rfl) ?_
  refine va_get (D := (dC, dI)) (ci := 4) (v := .ref now) (C := RX2) (T := TX2) (N := 15) hx hb hts hiX2 hown hK hP k0 w0 rfl 5 (by decide) hf39 (fun _ h9 => h9) rfl dX2_start_16 ?_
  refine va_getN (D := (dC, dI)) (ci := 9) (v := .int 0) (C := RX7) (T := TX7) (N := 5) hx hb hts hiX7 hown hK hP k2 w2 rfl 3 (by decide) (nf_27 hG) (fun _ h9 => h9) rfl dX2_start_19 ?_
  refine lv_istore (lv' := [(5, .int 0), (0, .ref t), (1, .ref bk), (2, .ref tp), (3, .int 0), (4, .ref w)]) hx hb dX2_start_22 hl (by decide) rfl (fun ls hl => ?_)
  refine lv_aload_n hx hb dX2_start_24 rfl (lv_at hl 1 rfl) ?_
  refine va_get (D := (dC, dI)) (ci := 4) (v := .ref pa) (C := RX2) (T := TX2) (N := 15) hx hb hts hiX2 hown hK hP k0 w0 rfl 1 (by decide) hf21 (fun _ h9 => h9) rfl dX2_start_25 ?_
  refine lv_aload hx hb dX2_start_28 (lv_at hl 5 rfl) ?_
  refine lv_iload hx hb dX2_start_30 (lv_at hl 0 rfl) ?_
  refine va_calli (va_runV (As := [.ref w, .int 0]) (rest := []) ⟨hx, hb, hml, hown, hts⟩ (c_X3_arrange_1 l dC dI g Wd pa pa1 pa2 w 1 k4 w4 k6 w6  H_1.size) (cwV 2 hts gX2_start_X3_arrange rfl rfl rfl (by decide +kernel) ⟨Nat.le_of_ble_eq_true rfl, Nat.le_of_ble_eq_true rfl⟩) ⟨PG_blind, va_recv hK hP (ci := 5) (q0 := k4) rfl w4, PG_call hK hG hS hP hD (A_all hD hA hS.1)⟩ rfl rfl hl.1 rfl (lv_room (Nat.le_of_ble_eq_true rfl)) dX2_start_32 ⟨Nat.le_of_ble_eq_true rfl, Nat.le_of_ble_eq_true rfl⟩) hS (fun q _ h => (A_all hD hA hS.1) q h) (A_all hD hA hS.1) (fun r_2 u_2 t_2 H_2 L_2 ht_2 hvm_2 hw_2 hB_2 hz_2 hk_2 hS => ?_)
  replace hB_2 := (show va_P (dC, dI) vwCl Wd t_2.heap from hB_2)
  rw [ht_2] at hB_2
  have hP := hB_2
  obtain rfl : r_2 = 0 := hw_2
  refine lv_istore (lv' := [(6, .int 0), (5, .int 0), (0, .ref t), (1, .ref bk), (2, .ref tp), (3, .int 0), (4, .ref w)]) hx hb dX2_start_35 hl (by decide) rfl (fun ls hl => ?_)
  refine lv_iload hx hb dX2_start_37 (lv_at hl 1 rfl) ?_
  refine lv_istore (lv' := [(7, .int 0), (6, .int 0), (5, .int 0), (0, .ref t), (1, .ref bk), (2, .ref tp), (3, .int 0), (4, .ref w)]) hx hb dX2_start_39 hl (by decide) rfl (fun ls hl => ?_)
  refine lv_iload hx hb dX2_start_41 (lv_at hl 0 rfl) ?_
  refine lv_iload hx hb dX2_start_43 (lv_at hl 1 rfl) ?_
  refine lv_icmp_ge (tgt := 61) hx hb dX2_start_45 (by decide) (fun c_3 => ?_) (fun c_3 => absurd (by decide) c_3)
  refine lv_aload_n hx hb dX2_start_61 rfl (lv_at hl 3 rfl) ?_
  refine va_get (D := (dC, dI)) (ci := 4) (v := .ref made) (C := RX2) (T := TX2) (N := 15) hx hb hts hiX2 hown hK hP k0 w0 rfl 6 (by decide) hf43 (fun _ h9 => h9) rfl dX2_start_62 ?_
  refine va_callv (va_runV (As := []) (rest := []) ⟨hx, hb, hml, hown, hts⟩ (c_X7_empty l dC dI g Wd made da db dc k3 w3  H_2.size) (cwV 0 hts gX2_start_X7_empty rfl rfl rfl (by decide +kernel) ⟨Nat.le_of_ble_eq_true rfl, Nat.le_of_ble_eq_true rfl⟩) ⟨PG_blind, va_recv hK hP (ci := 9) (q0 := k3) rfl w3, PG_call hK hG hS hP hD (A_all hD hA hS.1)⟩ rfl rfl hl.1 rfl (lv_room (Nat.le_of_ble_eq_true rfl)) dX2_start_65 ⟨Nat.le_of_ble_eq_true rfl, Nat.le_of_ble_eq_true rfl⟩) hS (fun q _ h => (A_all hD hA hS.1) q h) (A_all hD hA hS.1) (fun u_4 t_4 H_4 L_4 ht_4 hvm_4 hw_4 hB_4 hz_4 hk_4 hS => ?_)
  replace hB_4 := (show va_P (dC, dI) vwCl Wd t_4.heap from hB_4)
  rw [ht_4] at hB_4
  have hP := hB_4
  refine lv_aload_n hx hb dX2_start_68 rfl (lv_at hl 3 rfl) ?_
  refine lv_iload_n hx hb dX2_start_69 rfl (lv_at hl 6 rfl) ?_
  refine va_putS (D := (dC, dI)) (ci := 4) (v := .int 0) (ty := .int) (C := RX2) (T := TX2) (N := 15) hx hb hts hiX2 tyX2 tyX2_ok nmX2 hown hK hP hD hS k0 w0 rfl 8 (by decide) hf49 (fun _ h9 => h9) rfl (by decide +kernel) rfl rfl (Nat.le_of_ble_eq_true rfl) rfl dX2_start_70 (fun H_5 L_6 hP hS => ?_)
  refine lv_aload_n hx hb dX2_start_73 rfl (lv_at hl 3 rfl) ?_
  refine lv_iconst (v := 0) hx hb dX2_start_74 (by decide) ?_
  refine va_putS (D := (dC, dI)) (ci := 4) (v := .int 0) (ty := .int) (C := RX2) (T := TX2) (N := 15) hx hb hts hiX2 tyX2 tyX2_ok nmX2 hown hK hP hD hS k0 w0 rfl 9 (by decide) hf52 (fun _ h9 => h9) rfl (by decide +kernel) rfl rfl (Nat.le_of_ble_eq_true rfl) rfl dX2_start_75 (fun H_7 L_8 hP hS => ?_)
  refine lv_aload_n hx hb dX2_start_78 rfl (lv_at hl 3 rfl) ?_
  refine lv_iconst (v := 0) hx hb dX2_start_79 (by decide) ?_
  refine va_putS (D := (dC, dI)) (ci := 4) (v := .int 0) (ty := .int) (C := RX2) (T := TX2) (N := 15) hx hb hts hiX2 tyX2 tyX2_ok nmX2 hown hK hP hD hS k0 w0 rfl 10 (by decide) hf55 (fun _ h9 => h9) rfl (by decide +kernel) rfl rfl (Nat.le_of_ble_eq_true rfl) rfl dX2_start_80 (fun H_9 L_10 hP hS => ?_)
  refine lv_aload_n hx hb dX2_start_83 rfl (lv_at hl 3 rfl) ?_
  refine lv_aload_n hx hb dX2_start_84 rfl (lv_at hl 5 rfl) ?_
  refine va_getN (D := (dC, dI)) (ci := 11) (v := .int 0) (C := RX9) (T := TX9) (N := 2) hx hb hts hiX9 hown hK hP k5 w5 rfl 1 (by decide) (nf_1 hG) (fun _ h9 => h9) rfl dX2_start_85 ?_
  refine va_putS (D := (dC, dI)) (ci := 4) (v := .int 0) (ty := .int) (C := RX2) (T := TX2) (N := 15) hx hb hts hiX2 tyX2 tyX2_ok nmX2 hown hK hP hD hS k0 w0 rfl 11 (by decide) hf58 (fun _ h9 => h9) rfl (by decide +kernel) rfl rfl (Nat.le_of_ble_eq_true rfl) rfl dX2_start_88 (fun H_11 L_12 hP hS => ?_)
  refine lv_aload_n hx hb dX2_start_91 rfl (lv_at hl 3 rfl) ?_
  refine lv_iconst (v := 0) hx hb dX2_start_92 (by decide) ?_
  refine va_putS (D := (dC, dI)) (ci := 4) (v := .int 0) (ty := .int) (C := RX2) (T := TX2) (N := 15) hx hb hts hiX2 tyX2 tyX2_ok nmX2 hown hK hP hD hS k0 w0 rfl 12 (by decide) hf61 (fun _ h9 => h9) rfl (by decide +kernel) rfl rfl (Nat.le_of_ble_eq_true rfl) rfl dX2_start_93 (fun H_13 L_14 hP hS => ?_)
  refine lv_aload_n hx hb dX2_start_96 rfl (lv_at hl 3 rfl) ?_
  refine lv_iconst (v := 0) hx hb dX2_start_97 (by decide) ?_
  refine va_putS (D := (dC, dI)) (ci := 4) (v := .int 0) (ty := .int) (C := RX2) (T := TX2) (N := 15) hx hb hts hiX2 tyX2 tyX2_ok nmX2 hown hK hP hD hS k0 w0 rfl 13 (by decide) hf64 (fun _ h9 => h9) rfl (by decide +kernel) rfl rfl (Nat.le_of_ble_eq_true rfl) rfl dX2_start_98 (fun H_15 L_16 hP hS => ?_)
  refine lv_aload_n hx hb dX2_start_101 rfl (lv_at hl 3 rfl) ?_
  refine lv_iconst (v := 0) hx hb dX2_start_102 (by decide) ?_
  refine va_putS (D := (dC, dI)) (ci := 4) (v := .int 0) (ty := .int) (C := RX2) (T := TX2) (N := 15) hx hb hts hiX2 tyX2 tyX2_ok nmX2 hown hK hP hD hS k0 w0 rfl 14 (by decide) hf67 (fun _ h9 => h9) rfl (by decide +kernel) rfl rfl (Nat.le_of_ble_eq_true rfl) rfl dX2_start_103 (fun H_17 L_18 hP hS => ?_)
  refine lv_iload hx hb dX2_start_106 (lv_at hl 2 rfl) ?_
  exact W.iret (v := 0) hx hb hr (fun t ht hW => ⟨⟨0, (), rfl, rfl, P_at ht hP⟩, hS.F ht⟩) hS.2.2 dX2_start_108
set_option maxHeartbeats 4000000 in
set_option maxRecDepth 100000 in
theorem c_X2_doWhole_11 (l : Launch) (dC : Nat → ClassId) (dI : Nat → Nat → Nat) (g : Nat → ClassId) (Wd : va_W) (t : Nat) (mk : Nat) (pa : Nat) (ii : Nat) (pl : Nat) (now : Nat) (made : Nat) (nx : Nat) (ma : Nat) (mb : Nat) (na : Nat) (nb : Nat) (nc : Nat) (da : Nat) (db : Nat) (dc : Nat) (pa1 : Nat) (pa2 : Nat) (bk : Nat) (tp : Nat) (h : Nat) (u : Nat) (hu : Nat) (w : Nat) (k0 : Nat) (w0 : Wd[k0]? = some (t, .inr (4, [.ref mk, .ref pa, .ref ii, .ref pl, .int 0, .ref now, .ref made, .ref nx, .int 0, .int 0, .int 0, .int 0, .int 0, .int 0, .int 0]))) (k1 : Nat) (w1 : Wd[k1]? = some (mk, .inr (8, [.ref ma, .ref mb, .int 0]))) (k2 : Nat) (w2 : Wd[k2]? = some (now, .inr (9, [.ref na, .ref nb, .ref nc, .int 0, .int 0]))) (k3 : Nat) (w3 : Wd[k3]? = some (made, .inr (9, [.ref da, .ref db, .ref dc, .int 0, .int 0]))) (k4 : Nat) (w4 : Wd[k4]? = some (pa, .inr (5, [.ref pa1, .ref pa2, .int 1, .int 2, .int 0, .int 0]))) (k5 : Nat) (w5 : Wd[k5]? = some (tp, .inr (11, [.ref h, .int 0]))) (k6 : Nat) (w6 : Wd[k6]? = some (u, .inr (11, [.ref hu, .int 0]))) (k7 : Nat) (w7 : Wd[k7]? = some (w, .inr (10, [.int 0, .int 1, .int 4, .int 1, .int 2]))) (sz : Nat) : Met l yX2_doWhole wsX2_doWhole ({ frames := 3, cells := 0, slots := 0, locals := 83 }) (va_Pc [.ref t, .ref bk, .ref tp, .ref u, .ref w] (PG (dC, dI) g Wd sz)) (va_Qv (fun (_ : Unit) => True) (fun (_ : Unit) t => va_P (dC, dI) vwCl Wd t.heap) (va_A Wd sz)) 0 0 (va_A Wd sz) := by
  refine Met.ofW (cc := cX2_doWhole) (maxL := 6) (ret := none) (by decide) rfl ?_
  intro p e s m args below meth c s₁ B hml hv
  obtain ⟨rfl, hsz, hP, hK, hD0, hG⟩ := hv
  have hx := B.exec
  have hb := B.bytes
  have hr := B.returns
  have hts := atoms_spec (ws := wsX2_doWhole) B.pre
  have hown : s.vm.findClass RX2 = some m.cls := findClass_of_methodNamed B.named
  have hlocks := B.notSynchronized
  subst hsz
  have hD := hD0.self (sz := s.heap.size)
  generalize hAe : va_A Wd s.heap.size = A at hD hG ⊢
  have hA : ∀ q : Nat, s.heap.size ≤ q → A q := fun q h => by rw [← hAe]; exact Or.inr h
  have hS : va_S A s.heap s.heap [] := va_S.rf
  have hl := lv_entry ([.ref t, .ref bk, .ref tp, .ref u, .ref w]) (n := 6) (Nat.le_of_ble_eq_true rfl)
  rw [lg_entry_eq]
  generalize (lg_sl ([.ref t, .ref bk, .ref tp, .ref u, .ref w]) ++ List.replicate (6 - (lg_sl ([.ref t, .ref bk, .ref tp, .ref u, .ref w])).length) Slot.unset).toArray = ls at hl ⊢
  have hl : lv_has ls 6 [(0, .ref t), (1, .ref bk), (2, .ref tp), (3, .ref u), (4, .ref w)] := hl
  refine lv_aload_n hx hb dX2_doWhole_0 rfl (lv_at hl 0 rfl) ?_
  refine lv_aload_n hx hb dX2_doWhole_1 rfl (lv_at hl 1 rfl) ?_
  refine lv_aload_n hx hb dX2_doWhole_2 rfl (lv_at hl 2 rfl) ?_
  refine lv_iconst (v := 0) hx hb dX2_doWhole_3 (by decide) ?_
  refine lv_aload hx hb dX2_doWhole_4 (lv_at hl 4 rfl) ?_
  refine va_calli (va_runV (As := [.ref bk, .ref tp, .int 0, .ref w]) (rest := []) ⟨hx, hb, hml, hown, hts⟩ (c_X2_start_11 l dC dI g Wd t mk pa ii pl now made nx ma mb na nb nc da db dc pa1 pa2 bk tp h w k0 w0 k1 w1 k2 w2 k3 w3 k4 w4 k5 w5 k7 w7  s.heap.size) (cwV 4 hts gX2_doWhole_X2_start rfl rfl rfl (by decide +kernel) ⟨Nat.le_of_ble_eq_true rfl, Nat.le_of_ble_eq_true rfl⟩) ⟨PG_blind, va_recv hK hP (ci := 4) (q0 := k0) rfl w0, PG_call hK hG hS hP hD (A_all hD hA hS.1)⟩ rfl rfl hl.1 rfl (lv_room (Nat.le_of_ble_eq_true rfl)) dX2_doWhole_6 ⟨Nat.le_of_ble_eq_true rfl, Nat.le_of_ble_eq_true rfl⟩) hS (fun q _ h => (A_all hD hA hS.1) q h) (A_all hD hA hS.1) (fun r_1 u_1 t_1 H_1 L_1 ht_1 hvm_1 hw_1 hB_1 hz_1 hk_1 hS => ?_)
  replace hB_1 := (show va_P (dC, dI) vwCl Wd t_1.heap from hB_1)
  rw [ht_1] at hB_1
  have hP := hB_1
  obtain rfl : r_1 = 0 := hw_1
  refine lv_pop hx hb dX2_doWhole_9 rfl ?_
  refine lv_iconst (v := 0) hx hb dX2_doWhole_10 (by decide) ?_
  refine lv_istore (lv' := [(5, .int 0), (0, .ref t), (1, .ref bk), (2, .ref tp), (3, .ref u), (4, .ref w)]) hx hb dX2_doWhole_11 hl (by decide) rfl (fun ls hl => ?_)
  refine lv_iload hx hb dX2_doWhole_13 (lv_at hl 0 rfl) ?_
  refine lv_sipush (v := 200) hx hb dX2_doWhole_15 (by decide) ?_
  refine lv_icmp_ge (tgt := 38) hx hb dX2_doWhole_18 (by decide) (fun c_2 => absurd c_2 (by decide)) (fun c_2 => ?_)
  refine lv_aload_n hx hb dX2_doWhole_21 rfl (lv_at hl 1 rfl) ?_
  refine va_calli (va_runV (As := []) (rest := []) ⟨hx, hb, hml, hown, hts⟩ (c_X2_isOver l dC dI g Wd t mk pa ii pl now made nx na nb nc 0 k0 w0 k2 w2  H_1.size) (cwV 0 hts gX2_doWhole_X2_isOver rfl rfl rfl (by decide +kernel) ⟨Nat.le_of_ble_eq_true rfl, Nat.le_of_ble_eq_true rfl⟩) ⟨PG_blind, va_recv hK hP (ci := 4) (q0 := k0) rfl w0, PG_call hK hG hS hP hD (A_all hD hA hS.1)⟩ rfl rfl hl.1 rfl (lv_room (Nat.le_of_ble_eq_true rfl)) dX2_doWhole_22 ⟨Nat.le_of_ble_eq_true rfl, Nat.le_of_ble_eq_true rfl⟩) hS (fun q _ h => (A_all hD hA hS.1) q h) (A_all hD hA hS.1) (fun r_3 u_3 t_3 H_3 L_3 ht_3 hvm_3 hw_3 hB_3 hz_3 hk_3 hS => ?_)
  replace hB_3 := (show va_P (dC, dI) vwCl Wd t_3.heap from hB_3)
  rw [ht_3] at hB_3
  have hP := hB_3
  obtain rfl : r_3 = 1 := hw_3
  refine lv_if_ne (tgt := 38) hx hb dX2_doWhole_25 (by decide) (fun c_4 => ?_) (fun c_4 => absurd c_4 (by decide))
  refine lv_aload_n hx hb dX2_doWhole_38 rfl (lv_at hl 1 rfl) ?_
  refine lv_aload_n hx hb dX2_doWhole_39 rfl (lv_at hl 4 rfl) ?_
  refine va_callv (va_runV (As := [.ref u]) (rest := []) ⟨hx, hb, hml, hown, hts⟩ (c_X2_writeTo l dC dI g Wd t mk pa ii pl now made nx na nb nc u hu 0 k0 w0 k2 w2 k6 w6  H_3.size) (cwV 1 hts gX2_doWhole_X2_writeTo rfl rfl rfl (by decide +kernel) ⟨Nat.le_of_ble_eq_true rfl, Nat.le_of_ble_eq_true rfl⟩) ⟨PG_blind, va_recv hK hP (ci := 4) (q0 := k0) rfl w0, PG_call hK hG hS hP hD (A_all hD hA hS.1)⟩ rfl rfl hl.1 rfl (lv_room (Nat.le_of_ble_eq_true rfl)) dX2_doWhole_40 ⟨Nat.le_of_ble_eq_true rfl, Nat.le_of_ble_eq_true rfl⟩) hS (fun q _ h => (A_all hD hA hS.1) q h) (A_all hD hA hS.1) (fun u_5 t_5 H_5 L_5 ht_5 hvm_5 hw_5 hB_5 hz_5 hk_5 hS => ?_)
  replace hB_5 := (show va_P (dC, dI) vwCl Wd t_5.heap from hB_5)
  rw [ht_5] at hB_5
  have hP := hB_5
  exact W.vret hx hb hr (fun t ht hW => ⟨⟨(), rfl, trivial, P_at ht hP⟩, hS.F ht⟩) hS.2.2 dX2_doWhole_43
set_option maxHeartbeats 4000000 in
set_option maxRecDepth 100000 in
theorem c_X2_start_12 (l : Launch) (dC : Nat → ClassId) (dI : Nat → Nat → Nat) (g : Nat → ClassId) (Wd : va_W) (t : Nat) (mk : Nat) (pa : Nat) (ii : Nat) (pl : Nat) (now : Nat) (made : Nat) (nx : Nat) (ma : Nat) (mb : Nat) (na : Nat) (nb : Nat) (nc : Nat) (da : Nat) (db : Nat) (dc : Nat) (pa1 : Nat) (pa2 : Nat) (bk : Nat) (tp : Nat) (h : Nat) (w : Nat) (k0 : Nat) (w0 : Wd[k0]? = some (t, .inr (4, [.ref mk, .ref pa, .ref ii, .ref pl, .int 0, .ref now, .ref made, .ref nx, .int 0, .int 0, .int 0, .int 0, .int 0, .int 0, .int 0]))) (k1 : Nat) (w1 : Wd[k1]? = some (mk, .inr (8, [.ref ma, .ref mb, .int 0]))) (k2 : Nat) (w2 : Wd[k2]? = some (now, .inr (9, [.ref na, .ref nb, .ref nc, .int 0, .int 0]))) (k3 : Nat) (w3 : Wd[k3]? = some (made, .inr (9, [.ref da, .ref db, .ref dc, .int 0, .int 0]))) (k4 : Nat) (w4 : Wd[k4]? = some (pa, .inr (5, [.ref pa1, .ref pa2, .int 2, .int 2, .int 0, .int 0]))) (k5 : Nat) (w5 : Wd[k5]? = some (tp, .inr (11, [.ref h, .int 0]))) (k6 : Nat) (w6 : Wd[k6]? = some (w, .inr (10, [.int 0, .int 1, .int 4, .int 2, .int 2]))) (sz : Nat) : Met l yX2_start wsX2_start ({ frames := 2, cells := 0, slots := 0, locals := 56 }) (va_Pc [.ref t, .ref bk, .ref tp, .int 0, .ref w] (PG (dC, dI) g Wd sz)) (va_Qi (fun (r : Int32) (_ : Unit) => r = 0) (fun (_ : Unit) t => va_P (dC, dI) vwCl Wd t.heap) (va_A Wd sz)) 0 0 (va_A Wd sz) := by
  refine Met.ofW (cc := cX2_start) (maxL := 8) (ret := (some .int)) (by decide) rfl ?_
  intro p e s m args below meth c s₁ B hml hv
  obtain ⟨rfl, hsz, hP, hK, hD0, hG⟩ := hv
  have hx := B.exec
  have hb := B.bytes
  have hr := B.returns
  have hts := atoms_spec (ws := wsX2_start) B.pre
  have hown : s.vm.findClass RX2 = some m.cls := findClass_of_methodNamed B.named
  have hlocks := B.notSynchronized
  subst hsz
  have hD := hD0.self (sz := s.heap.size)
  generalize hAe : va_A Wd s.heap.size = A at hD hG ⊢
  have hA : ∀ q : Nat, s.heap.size ≤ q → A q := fun q h => by rw [← hAe]; exact Or.inr h
  have hS : va_S A s.heap s.heap [] := va_S.rf
  have hl := lv_entry ([.ref t, .ref bk, .ref tp, .int 0, .ref w]) (n := 8) (Nat.le_of_ble_eq_true rfl)
  rw [lg_entry_eq]
  generalize (lg_sl ([.ref t, .ref bk, .ref tp, .int 0, .ref w]) ++ List.replicate (8 - (lg_sl ([.ref t, .ref bk, .ref tp, .int 0, .ref w])).length) Slot.unset).toArray = ls at hl ⊢
  have hl : lv_has ls 8 [(0, .ref t), (1, .ref bk), (2, .ref tp), (3, .int 0), (4, .ref w)] := hl
  have hf12 := hts (Cond.fieldLink RX2 12 "RunmergeOffice$Job" "maker" "LRunmergeOffice$RunMaker;") (by decide +kernel)
  have hiX2 : ∀ w ∈ u_ws RX2 TX2 15, w ∈ wsX2_start := by decide +kernel
  have hf39 := hts (Cond.fieldLink RX2 39 "RunmergeOffice$Job" "now" "LRunmergeOffice$RunRow;") (by decide +kernel)
  have hiX7 : ∀ w ∈ u_ws RX7 TX7 5, w ∈ wsX2_start := by decide +kernel
  have hf21 := hts (Cond.fieldLink RX2 21 "RunmergeOffice$Job" "pass" "LRunmergeOffice$Pass;") (by decide +kernel)
  have hf43 := hts (Cond.fieldLink RX2 43 "RunmergeOffice$Job" "made" "LRunmergeOffice$RunRow;") (by decide +kernel)
  have hf49 := hts (Cond.fieldLink RX2 49 "RunmergeOffice$Job" "target" "I") (by decide +kernel)
  have hf52 := hts (Cond.fieldLink RX2 52 "RunmergeOffice$Job" "passes" "I") (by decide +kernel)
  have hf55 := hts (Cond.fieldLink RX2 55 "RunmergeOffice$Job" "merges" "I") (by decide +kernel)
  have hiX9 : ∀ w ∈ u_ws RX9 TX9 2, w ∈ wsX2_start := by decide +kernel
  have hf58 := hts (Cond.fieldLink RX2 58 "RunmergeOffice$Job" "moves" "I") (by decide +kernel)
  have hf61 := hts (Cond.fieldLink RX2 61 "RunmergeOffice$Job" "movesOfPass" "I") (by decide +kernel)
  have hf64 := hts (Cond.fieldLink RX2 64 "RunmergeOffice$Job" "lostMoves" "I") (by decide +kernel)
  have hf67 := hts (Cond.fieldLink RX2 67 "RunmergeOffice$Job" "timesTorn" "I") (by decide +kernel)
  refine lv_aload_n hx hb dX2_start_0 rfl (lv_at hl 0 rfl) ?_
  refine va_get (D := (dC, dI)) (ci := 4) (v := .ref mk) (C := RX2) (T := TX2) (N := 15) hx hb hts hiX2 hown hK hP k0 w0 rfl 0 (by decide) hf12 (fun _ h9 => h9) rfl dX2_start_1 ?_
  refine lv_aload_n hx hb dX2_start_4 rfl (lv_at hl 1 rfl) ?_
  refine lv_aload_n hx hb dX2_start_5 rfl (lv_at hl 2 rfl) ?_
  refine lv_aload hx hb dX2_start_6 (lv_at hl 4 rfl) ?_
  refine lv_aload_n hx hb dX2_start_8 rfl (lv_at hl 0 rfl) ?_
  refine va_get (D := (dC, dI)) (ci := 4) (v := .ref now) (C := RX2) (T := TX2) (N := 15) hx hb hts hiX2 hown hK hP k0 w0 rfl 5 (by decide) hf39 (fun _ h9 => h9) rfl dX2_start_9 ?_
  refine va_callv (va_runV (As := [.ref bk, .ref tp, .ref w, .ref now]) (rest := []) ⟨hx, hb, hml, hown, hts⟩ (c_X6_makeRuns_1 l dC dI g Wd mk ma mb bk tp h w now na nb nc 2 k1 w1 k5 w5 k6 w6 k2 w2  s.heap.size) (cwV 4 hts gX2_start_X6_makeRuns rfl rfl rfl (by decide +kernel) ⟨Nat.le_of_ble_eq_true rfl, Nat.le_of_ble_eq_true rfl⟩) ⟨PG_blind, va_recv hK hP (ci := 8) (q0 := k1) rfl w1, PG_call hK hG hS hP hD (A_all hD hA hS.1)⟩ rfl rfl hl.1 rfl (lv_room (Nat.le_of_ble_eq_true rfl)) dX2_start_12 ⟨Nat.le_of_ble_eq_true rfl, Nat.le_of_ble_eq_true rfl⟩) hS (fun q _ h => (A_all hD hA hS.1) q h) (A_all hD hA hS.1) (fun u_1 t_1 H_1 L_1 ht_1 hvm_1 hw_1 hB_1 hz_1 hk_1 hS => ?_)
  replace hB_1 := (show va_P (dC, dI) vwCl Wd t_1.heap from hB_1)
  rw [ht_1] at hB_1
  have hP := hB_1
  refine lv_aload_n hx hb dX2_start_15 rfl (lv_at hl 0 rfl) ?_
  refine va_get (D := (dC, dI)) (ci := 4) (v := .ref now) (C := RX2) (T := TX2) (N := 15) hx hb hts hiX2 hown hK hP k0 w0 rfl 5 (by decide) hf39 (fun _ h9 => h9) rfl dX2_start_16 ?_
  refine va_getN (D := (dC, dI)) (ci := 9) (v := .int 0) (C := RX7) (T := TX7) (N := 5) hx hb hts hiX7 hown hK hP k2 w2 rfl 3 (by decide) (nf_27 hG) (fun _ h9 => h9) rfl dX2_start_19 ?_
  refine lv_istore (lv' := [(5, .int 0), (0, .ref t), (1, .ref bk), (2, .ref tp), (3, .int 0), (4, .ref w)]) hx hb dX2_start_22 hl (by decide) rfl (fun ls hl => ?_)
  refine lv_aload_n hx hb dX2_start_24 rfl (lv_at hl 1 rfl) ?_
  refine va_get (D := (dC, dI)) (ci := 4) (v := .ref pa) (C := RX2) (T := TX2) (N := 15) hx hb hts hiX2 hown hK hP k0 w0 rfl 1 (by decide) hf21 (fun _ h9 => h9) rfl dX2_start_25 ?_
  refine lv_aload hx hb dX2_start_28 (lv_at hl 5 rfl) ?_
  refine lv_iload hx hb dX2_start_30 (lv_at hl 0 rfl) ?_
  refine va_calli (va_runV (As := [.ref w, .int 0]) (rest := []) ⟨hx, hb, hml, hown, hts⟩ (c_X3_arrange_2 l dC dI g Wd pa pa1 pa2 w 1 k4 w4 k6 w6  H_1.size) (cwV 2 hts gX2_start_X3_arrange rfl rfl rfl (by decide +kernel) ⟨Nat.le_of_ble_eq_true rfl, Nat.le_of_ble_eq_true rfl⟩) ⟨PG_blind, va_recv hK hP (ci := 5) (q0 := k4) rfl w4, PG_call hK hG hS hP hD (A_all hD hA hS.1)⟩ rfl rfl hl.1 rfl (lv_room (Nat.le_of_ble_eq_true rfl)) dX2_start_32 ⟨Nat.le_of_ble_eq_true rfl, Nat.le_of_ble_eq_true rfl⟩) hS (fun q _ h => (A_all hD hA hS.1) q h) (A_all hD hA hS.1) (fun r_2 u_2 t_2 H_2 L_2 ht_2 hvm_2 hw_2 hB_2 hz_2 hk_2 hS => ?_)
  replace hB_2 := (show va_P (dC, dI) vwCl Wd t_2.heap from hB_2)
  rw [ht_2] at hB_2
  have hP := hB_2
  obtain rfl : r_2 = 0 := hw_2
  refine lv_istore (lv' := [(6, .int 0), (5, .int 0), (0, .ref t), (1, .ref bk), (2, .ref tp), (3, .int 0), (4, .ref w)]) hx hb dX2_start_35 hl (by decide) rfl (fun ls hl => ?_)
  refine lv_iload hx hb dX2_start_37 (lv_at hl 1 rfl) ?_
  refine lv_istore (lv' := [(7, .int 0), (6, .int 0), (5, .int 0), (0, .ref t), (1, .ref bk), (2, .ref tp), (3, .int 0), (4, .ref w)]) hx hb dX2_start_39 hl (by decide) rfl (fun ls hl => ?_)
  refine lv_iload hx hb dX2_start_41 (lv_at hl 0 rfl) ?_
  refine lv_iload hx hb dX2_start_43 (lv_at hl 1 rfl) ?_
  refine lv_icmp_ge (tgt := 61) hx hb dX2_start_45 (by decide) (fun c_3 => ?_) (fun c_3 => absurd (by decide) c_3)
  refine lv_aload_n hx hb dX2_start_61 rfl (lv_at hl 3 rfl) ?_
  refine va_get (D := (dC, dI)) (ci := 4) (v := .ref made) (C := RX2) (T := TX2) (N := 15) hx hb hts hiX2 hown hK hP k0 w0 rfl 6 (by decide) hf43 (fun _ h9 => h9) rfl dX2_start_62 ?_
  refine va_callv (va_runV (As := []) (rest := []) ⟨hx, hb, hml, hown, hts⟩ (c_X7_empty l dC dI g Wd made da db dc k3 w3  H_2.size) (cwV 0 hts gX2_start_X7_empty rfl rfl rfl (by decide +kernel) ⟨Nat.le_of_ble_eq_true rfl, Nat.le_of_ble_eq_true rfl⟩) ⟨PG_blind, va_recv hK hP (ci := 9) (q0 := k3) rfl w3, PG_call hK hG hS hP hD (A_all hD hA hS.1)⟩ rfl rfl hl.1 rfl (lv_room (Nat.le_of_ble_eq_true rfl)) dX2_start_65 ⟨Nat.le_of_ble_eq_true rfl, Nat.le_of_ble_eq_true rfl⟩) hS (fun q _ h => (A_all hD hA hS.1) q h) (A_all hD hA hS.1) (fun u_4 t_4 H_4 L_4 ht_4 hvm_4 hw_4 hB_4 hz_4 hk_4 hS => ?_)
  replace hB_4 := (show va_P (dC, dI) vwCl Wd t_4.heap from hB_4)
  rw [ht_4] at hB_4
  have hP := hB_4
  refine lv_aload_n hx hb dX2_start_68 rfl (lv_at hl 3 rfl) ?_
  refine lv_iload_n hx hb dX2_start_69 rfl (lv_at hl 6 rfl) ?_
  refine va_putS (D := (dC, dI)) (ci := 4) (v := .int 0) (ty := .int) (C := RX2) (T := TX2) (N := 15) hx hb hts hiX2 tyX2 tyX2_ok nmX2 hown hK hP hD hS k0 w0 rfl 8 (by decide) hf49 (fun _ h9 => h9) rfl (by decide +kernel) rfl rfl (Nat.le_of_ble_eq_true rfl) rfl dX2_start_70 (fun H_5 L_6 hP hS => ?_)
  refine lv_aload_n hx hb dX2_start_73 rfl (lv_at hl 3 rfl) ?_
  refine lv_iconst (v := 0) hx hb dX2_start_74 (by decide) ?_
  refine va_putS (D := (dC, dI)) (ci := 4) (v := .int 0) (ty := .int) (C := RX2) (T := TX2) (N := 15) hx hb hts hiX2 tyX2 tyX2_ok nmX2 hown hK hP hD hS k0 w0 rfl 9 (by decide) hf52 (fun _ h9 => h9) rfl (by decide +kernel) rfl rfl (Nat.le_of_ble_eq_true rfl) rfl dX2_start_75 (fun H_7 L_8 hP hS => ?_)
  refine lv_aload_n hx hb dX2_start_78 rfl (lv_at hl 3 rfl) ?_
  refine lv_iconst (v := 0) hx hb dX2_start_79 (by decide) ?_
  refine va_putS (D := (dC, dI)) (ci := 4) (v := .int 0) (ty := .int) (C := RX2) (T := TX2) (N := 15) hx hb hts hiX2 tyX2 tyX2_ok nmX2 hown hK hP hD hS k0 w0 rfl 10 (by decide) hf55 (fun _ h9 => h9) rfl (by decide +kernel) rfl rfl (Nat.le_of_ble_eq_true rfl) rfl dX2_start_80 (fun H_9 L_10 hP hS => ?_)
  refine lv_aload_n hx hb dX2_start_83 rfl (lv_at hl 3 rfl) ?_
  refine lv_aload_n hx hb dX2_start_84 rfl (lv_at hl 5 rfl) ?_
  refine va_getN (D := (dC, dI)) (ci := 11) (v := .int 0) (C := RX9) (T := TX9) (N := 2) hx hb hts hiX9 hown hK hP k5 w5 rfl 1 (by decide) (nf_1 hG) (fun _ h9 => h9) rfl dX2_start_85 ?_
  refine va_putS (D := (dC, dI)) (ci := 4) (v := .int 0) (ty := .int) (C := RX2) (T := TX2) (N := 15) hx hb hts hiX2 tyX2 tyX2_ok nmX2 hown hK hP hD hS k0 w0 rfl 11 (by decide) hf58 (fun _ h9 => h9) rfl (by decide +kernel) rfl rfl (Nat.le_of_ble_eq_true rfl) rfl dX2_start_88 (fun H_11 L_12 hP hS => ?_)
  refine lv_aload_n hx hb dX2_start_91 rfl (lv_at hl 3 rfl) ?_
  refine lv_iconst (v := 0) hx hb dX2_start_92 (by decide) ?_
  refine va_putS (D := (dC, dI)) (ci := 4) (v := .int 0) (ty := .int) (C := RX2) (T := TX2) (N := 15) hx hb hts hiX2 tyX2 tyX2_ok nmX2 hown hK hP hD hS k0 w0 rfl 12 (by decide) hf61 (fun _ h9 => h9) rfl (by decide +kernel) rfl rfl (Nat.le_of_ble_eq_true rfl) rfl dX2_start_93 (fun H_13 L_14 hP hS => ?_)
  refine lv_aload_n hx hb dX2_start_96 rfl (lv_at hl 3 rfl) ?_
  refine lv_iconst (v := 0) hx hb dX2_start_97 (by decide) ?_
  refine va_putS (D := (dC, dI)) (ci := 4) (v := .int 0) (ty := .int) (C := RX2) (T := TX2) (N := 15) hx hb hts hiX2 tyX2 tyX2_ok nmX2 hown hK hP hD hS k0 w0 rfl 13 (by decide) hf64 (fun _ h9 => h9) rfl (by decide +kernel) rfl rfl (Nat.le_of_ble_eq_true rfl) rfl dX2_start_98 (fun H_15 L_16 hP hS => ?_)
  refine lv_aload_n hx hb dX2_start_101 rfl (lv_at hl 3 rfl) ?_
  refine lv_iconst (v := 0) hx hb dX2_start_102 (by decide) ?_
  refine va_putS (D := (dC, dI)) (ci := 4) (v := .int 0) (ty := .int) (C := RX2) (T := TX2) (N := 15) hx hb hts hiX2 tyX2 tyX2_ok nmX2 hown hK hP hD hS k0 w0 rfl 14 (by decide) hf67 (fun _ h9 => h9) rfl (by decide +kernel) rfl rfl (Nat.le_of_ble_eq_true rfl) rfl dX2_start_103 (fun H_17 L_18 hP hS => ?_)
  refine lv_iload hx hb dX2_start_106 (lv_at hl 2 rfl) ?_
  exact W.iret (v := 0) hx hb hr (fun t ht hW => ⟨⟨0, (), rfl, rfl, P_at ht hP⟩, hS.F ht⟩) hS.2.2 dX2_start_108
set_option maxHeartbeats 4000000 in
set_option maxRecDepth 100000 in
theorem c_X2_doWhole_12 (l : Launch) (dC : Nat → ClassId) (dI : Nat → Nat → Nat) (g : Nat → ClassId) (Wd : va_W) (t : Nat) (mk : Nat) (pa : Nat) (ii : Nat) (pl : Nat) (now : Nat) (made : Nat) (nx : Nat) (ma : Nat) (mb : Nat) (na : Nat) (nb : Nat) (nc : Nat) (da : Nat) (db : Nat) (dc : Nat) (pa1 : Nat) (pa2 : Nat) (bk : Nat) (tp : Nat) (h : Nat) (u : Nat) (hu : Nat) (w : Nat) (k0 : Nat) (w0 : Wd[k0]? = some (t, .inr (4, [.ref mk, .ref pa, .ref ii, .ref pl, .int 0, .ref now, .ref made, .ref nx, .int 0, .int 0, .int 0, .int 0, .int 0, .int 0, .int 0]))) (k1 : Nat) (w1 : Wd[k1]? = some (mk, .inr (8, [.ref ma, .ref mb, .int 0]))) (k2 : Nat) (w2 : Wd[k2]? = some (now, .inr (9, [.ref na, .ref nb, .ref nc, .int 0, .int 0]))) (k3 : Nat) (w3 : Wd[k3]? = some (made, .inr (9, [.ref da, .ref db, .ref dc, .int 0, .int 0]))) (k4 : Nat) (w4 : Wd[k4]? = some (pa, .inr (5, [.ref pa1, .ref pa2, .int 2, .int 2, .int 0, .int 0]))) (k5 : Nat) (w5 : Wd[k5]? = some (tp, .inr (11, [.ref h, .int 0]))) (k6 : Nat) (w6 : Wd[k6]? = some (u, .inr (11, [.ref hu, .int 0]))) (k7 : Nat) (w7 : Wd[k7]? = some (w, .inr (10, [.int 0, .int 1, .int 4, .int 2, .int 2]))) (sz : Nat) : Met l yX2_doWhole wsX2_doWhole ({ frames := 3, cells := 0, slots := 0, locals := 83 }) (va_Pc [.ref t, .ref bk, .ref tp, .ref u, .ref w] (PG (dC, dI) g Wd sz)) (va_Qv (fun (_ : Unit) => True) (fun (_ : Unit) t => va_P (dC, dI) vwCl Wd t.heap) (va_A Wd sz)) 0 0 (va_A Wd sz) := by
  refine Met.ofW (cc := cX2_doWhole) (maxL := 6) (ret := none) (by decide) rfl ?_
  intro p e s m args below meth c s₁ B hml hv
  obtain ⟨rfl, hsz, hP, hK, hD0, hG⟩ := hv
  have hx := B.exec
  have hb := B.bytes
  have hr := B.returns
  have hts := atoms_spec (ws := wsX2_doWhole) B.pre
  have hown : s.vm.findClass RX2 = some m.cls := findClass_of_methodNamed B.named
  have hlocks := B.notSynchronized
  subst hsz
  have hD := hD0.self (sz := s.heap.size)
  generalize hAe : va_A Wd s.heap.size = A at hD hG ⊢
  have hA : ∀ q : Nat, s.heap.size ≤ q → A q := fun q h => by rw [← hAe]; exact Or.inr h
  have hS : va_S A s.heap s.heap [] := va_S.rf
  have hl := lv_entry ([.ref t, .ref bk, .ref tp, .ref u, .ref w]) (n := 6) (Nat.le_of_ble_eq_true rfl)
  rw [lg_entry_eq]
  generalize (lg_sl ([.ref t, .ref bk, .ref tp, .ref u, .ref w]) ++ List.replicate (6 - (lg_sl ([.ref t, .ref bk, .ref tp, .ref u, .ref w])).length) Slot.unset).toArray = ls at hl ⊢
  have hl : lv_has ls 6 [(0, .ref t), (1, .ref bk), (2, .ref tp), (3, .ref u), (4, .ref w)] := hl
  refine lv_aload_n hx hb dX2_doWhole_0 rfl (lv_at hl 0 rfl) ?_
  refine lv_aload_n hx hb dX2_doWhole_1 rfl (lv_at hl 1 rfl) ?_
  refine lv_aload_n hx hb dX2_doWhole_2 rfl (lv_at hl 2 rfl) ?_
  refine lv_iconst (v := 0) hx hb dX2_doWhole_3 (by decide) ?_
  refine lv_aload hx hb dX2_doWhole_4 (lv_at hl 4 rfl) ?_
  refine va_calli (va_runV (As := [.ref bk, .ref tp, .int 0, .ref w]) (rest := []) ⟨hx, hb, hml, hown, hts⟩ (c_X2_start_12 l dC dI g Wd t mk pa ii pl now made nx ma mb na nb nc da db dc pa1 pa2 bk tp h w k0 w0 k1 w1 k2 w2 k3 w3 k4 w4 k5 w5 k7 w7  s.heap.size) (cwV 4 hts gX2_doWhole_X2_start rfl rfl rfl (by decide +kernel) ⟨Nat.le_of_ble_eq_true rfl, Nat.le_of_ble_eq_true rfl⟩) ⟨PG_blind, va_recv hK hP (ci := 4) (q0 := k0) rfl w0, PG_call hK hG hS hP hD (A_all hD hA hS.1)⟩ rfl rfl hl.1 rfl (lv_room (Nat.le_of_ble_eq_true rfl)) dX2_doWhole_6 ⟨Nat.le_of_ble_eq_true rfl, Nat.le_of_ble_eq_true rfl⟩) hS (fun q _ h => (A_all hD hA hS.1) q h) (A_all hD hA hS.1) (fun r_1 u_1 t_1 H_1 L_1 ht_1 hvm_1 hw_1 hB_1 hz_1 hk_1 hS => ?_)
  replace hB_1 := (show va_P (dC, dI) vwCl Wd t_1.heap from hB_1)
  rw [ht_1] at hB_1
  have hP := hB_1
  obtain rfl : r_1 = 0 := hw_1
  refine lv_pop hx hb dX2_doWhole_9 rfl ?_
  refine lv_iconst (v := 0) hx hb dX2_doWhole_10 (by decide) ?_
  refine lv_istore (lv' := [(5, .int 0), (0, .ref t), (1, .ref bk), (2, .ref tp), (3, .ref u), (4, .ref w)]) hx hb dX2_doWhole_11 hl (by decide) rfl (fun ls hl => ?_)
  refine lv_iload hx hb dX2_doWhole_13 (lv_at hl 0 rfl) ?_
  refine lv_sipush (v := 200) hx hb dX2_doWhole_15 (by decide) ?_
  refine lv_icmp_ge (tgt := 38) hx hb dX2_doWhole_18 (by decide) (fun c_2 => absurd c_2 (by decide)) (fun c_2 => ?_)
  refine lv_aload_n hx hb dX2_doWhole_21 rfl (lv_at hl 1 rfl) ?_
  refine va_calli (va_runV (As := []) (rest := []) ⟨hx, hb, hml, hown, hts⟩ (c_X2_isOver l dC dI g Wd t mk pa ii pl now made nx na nb nc 0 k0 w0 k2 w2  H_1.size) (cwV 0 hts gX2_doWhole_X2_isOver rfl rfl rfl (by decide +kernel) ⟨Nat.le_of_ble_eq_true rfl, Nat.le_of_ble_eq_true rfl⟩) ⟨PG_blind, va_recv hK hP (ci := 4) (q0 := k0) rfl w0, PG_call hK hG hS hP hD (A_all hD hA hS.1)⟩ rfl rfl hl.1 rfl (lv_room (Nat.le_of_ble_eq_true rfl)) dX2_doWhole_22 ⟨Nat.le_of_ble_eq_true rfl, Nat.le_of_ble_eq_true rfl⟩) hS (fun q _ h => (A_all hD hA hS.1) q h) (A_all hD hA hS.1) (fun r_3 u_3 t_3 H_3 L_3 ht_3 hvm_3 hw_3 hB_3 hz_3 hk_3 hS => ?_)
  replace hB_3 := (show va_P (dC, dI) vwCl Wd t_3.heap from hB_3)
  rw [ht_3] at hB_3
  have hP := hB_3
  obtain rfl : r_3 = 1 := hw_3
  refine lv_if_ne (tgt := 38) hx hb dX2_doWhole_25 (by decide) (fun c_4 => ?_) (fun c_4 => absurd c_4 (by decide))
  refine lv_aload_n hx hb dX2_doWhole_38 rfl (lv_at hl 1 rfl) ?_
  refine lv_aload_n hx hb dX2_doWhole_39 rfl (lv_at hl 4 rfl) ?_
  refine va_callv (va_runV (As := [.ref u]) (rest := []) ⟨hx, hb, hml, hown, hts⟩ (c_X2_writeTo l dC dI g Wd t mk pa ii pl now made nx na nb nc u hu 0 k0 w0 k2 w2 k6 w6  H_3.size) (cwV 1 hts gX2_doWhole_X2_writeTo rfl rfl rfl (by decide +kernel) ⟨Nat.le_of_ble_eq_true rfl, Nat.le_of_ble_eq_true rfl⟩) ⟨PG_blind, va_recv hK hP (ci := 4) (q0 := k0) rfl w0, PG_call hK hG hS hP hD (A_all hD hA hS.1)⟩ rfl rfl hl.1 rfl (lv_room (Nat.le_of_ble_eq_true rfl)) dX2_doWhole_40 ⟨Nat.le_of_ble_eq_true rfl, Nat.le_of_ble_eq_true rfl⟩) hS (fun q _ h => (A_all hD hA hS.1) q h) (A_all hD hA hS.1) (fun u_5 t_5 H_5 L_5 ht_5 hvm_5 hw_5 hB_5 hz_5 hk_5 hS => ?_)
  replace hB_5 := (show va_P (dC, dI) vwCl Wd t_5.heap from hB_5)
  rw [ht_5] at hB_5
  have hP := hB_5
  exact W.vret hx hb hr (fun t ht hW => ⟨⟨(), rfl, trivial, P_at ht hP⟩, hS.F ht⟩) hS.2.2 dX2_doWhole_43
set_option maxHeartbeats 4000000 in
set_option maxRecDepth 100000 in
theorem c_X2_start_20 (l : Launch) (dC : Nat → ClassId) (dI : Nat → Nat → Nat) (g : Nat → ClassId) (Wd : va_W) (t : Nat) (mk : Nat) (pa : Nat) (ii : Nat) (pl : Nat) (now : Nat) (made : Nat) (nx : Nat) (ma : Nat) (mb : Nat) (na : Nat) (nb : Nat) (nc : Nat) (da : Nat) (db : Nat) (dc : Nat) (pa1 : Nat) (pa2 : Nat) (bk : Nat) (tp : Nat) (h : Nat) (w : Nat) (k0 : Nat) (w0 : Wd[k0]? = some (t, .inr (4, [.ref mk, .ref pa, .ref ii, .ref pl, .int 0, .ref now, .ref made, .ref nx, .int 0, .int 0, .int 0, .int 0, .int 0, .int 0, .int 0]))) (k1 : Nat) (w1 : Wd[k1]? = some (mk, .inr (8, [.ref ma, .ref mb, .int 0]))) (k2 : Nat) (w2 : Wd[k2]? = some (now, .inr (9, [.ref na, .ref nb, .ref nc, .int 0, .int 0]))) (k3 : Nat) (w3 : Wd[k3]? = some (made, .inr (9, [.ref da, .ref db, .ref dc, .int 0, .int 0]))) (k4 : Nat) (w4 : Wd[k4]? = some (pa, .inr (5, [.ref pa1, .ref pa2, .int 0, .int 2, .int 0, .int 0]))) (k5 : Nat) (w5 : Wd[k5]? = some (tp, .inr (11, [.ref h, .int 0]))) (k6 : Nat) (w6 : Wd[k6]? = some (w, .inr (10, [.int 0, .int 2, .int 4, .int 0, .int 2]))) (sz : Nat) : Met l yX2_start wsX2_start ({ frames := 2, cells := 0, slots := 0, locals := 52 }) (va_Pc [.ref t, .ref bk, .ref tp, .int 0, .ref w] (PG (dC, dI) g Wd sz)) (va_Qi (fun (r : Int32) (_ : Unit) => r = 0) (fun (_ : Unit) t => va_P (dC, dI) vwCl Wd t.heap) (va_A Wd sz)) 0 0 (va_A Wd sz) := by
  refine Met.ofW (cc := cX2_start) (maxL := 8) (ret := (some .int)) (by decide) rfl ?_
  intro p e s m args below meth c s₁ B hml hv
  obtain ⟨rfl, hsz, hP, hK, hD0, hG⟩ := hv
  have hx := B.exec
  have hb := B.bytes
  have hr := B.returns
  have hts := atoms_spec (ws := wsX2_start) B.pre
  have hown : s.vm.findClass RX2 = some m.cls := findClass_of_methodNamed B.named
  have hlocks := B.notSynchronized
  subst hsz
  have hD := hD0.self (sz := s.heap.size)
  generalize hAe : va_A Wd s.heap.size = A at hD hG ⊢
  have hA : ∀ q : Nat, s.heap.size ≤ q → A q := fun q h => by rw [← hAe]; exact Or.inr h
  have hS : va_S A s.heap s.heap [] := va_S.rf
  have hl := lv_entry ([.ref t, .ref bk, .ref tp, .int 0, .ref w]) (n := 8) (Nat.le_of_ble_eq_true rfl)
  rw [lg_entry_eq]
  generalize (lg_sl ([.ref t, .ref bk, .ref tp, .int 0, .ref w]) ++ List.replicate (8 - (lg_sl ([.ref t, .ref bk, .ref tp, .int 0, .ref w])).length) Slot.unset).toArray = ls at hl ⊢
  have hl : lv_has ls 8 [(0, .ref t), (1, .ref bk), (2, .ref tp), (3, .int 0), (4, .ref w)] := hl
  have hf12 := hts (Cond.fieldLink RX2 12 "RunmergeOffice$Job" "maker" "LRunmergeOffice$RunMaker;") (by decide +kernel)
  have hiX2 : ∀ w ∈ u_ws RX2 TX2 15, w ∈ wsX2_start := by decide +kernel
  have hf39 := hts (Cond.fieldLink RX2 39 "RunmergeOffice$Job" "now" "LRunmergeOffice$RunRow;") (by decide +kernel)
  have hiX7 : ∀ w ∈ u_ws RX7 TX7 5, w ∈ wsX2_start := by decide +kernel
  have hf21 := hts (Cond.fieldLink RX2 21 "RunmergeOffice$Job" "pass" "LRunmergeOffice$Pass;") (by decide +kernel)
  have hf43 := hts (Cond.fieldLink RX2 43 "RunmergeOffice$Job" "made" "LRunmergeOffice$RunRow;") (by decide +kernel)
  have hf49 := hts (Cond.fieldLink RX2 49 "RunmergeOffice$Job" "target" "I") (by decide +kernel)
  have hf52 := hts (Cond.fieldLink RX2 52 "RunmergeOffice$Job" "passes" "I") (by decide +kernel)
  have hf55 := hts (Cond.fieldLink RX2 55 "RunmergeOffice$Job" "merges" "I") (by decide +kernel)
  have hiX9 : ∀ w ∈ u_ws RX9 TX9 2, w ∈ wsX2_start := by decide +kernel
  have hf58 := hts (Cond.fieldLink RX2 58 "RunmergeOffice$Job" "moves" "I") (by decide +kernel)
  have hf61 := hts (Cond.fieldLink RX2 61 "RunmergeOffice$Job" "movesOfPass" "I") (by decide +kernel)
  have hf64 := hts (Cond.fieldLink RX2 64 "RunmergeOffice$Job" "lostMoves" "I") (by decide +kernel)
  have hf67 := hts (Cond.fieldLink RX2 67 "RunmergeOffice$Job" "timesTorn" "I") (by decide +kernel)
  refine lv_aload_n hx hb dX2_start_0 rfl (lv_at hl 0 rfl) ?_
  refine va_get (D := (dC, dI)) (ci := 4) (v := .ref mk) (C := RX2) (T := TX2) (N := 15) hx hb hts hiX2 hown hK hP k0 w0 rfl 0 (by decide) hf12 (fun _ h9 => h9) rfl dX2_start_1 ?_
  refine lv_aload_n hx hb dX2_start_4 rfl (lv_at hl 1 rfl) ?_
  refine lv_aload_n hx hb dX2_start_5 rfl (lv_at hl 2 rfl) ?_
  refine lv_aload hx hb dX2_start_6 (lv_at hl 4 rfl) ?_
  refine lv_aload_n hx hb dX2_start_8 rfl (lv_at hl 0 rfl) ?_
  refine va_get (D := (dC, dI)) (ci := 4) (v := .ref now) (C := RX2) (T := TX2) (N := 15) hx hb hts hiX2 hown hK hP k0 w0 rfl 5 (by decide) hf39 (fun _ h9 => h9) rfl dX2_start_9 ?_
  refine va_callv (va_runV (As := [.ref bk, .ref tp, .ref w, .ref now]) (rest := []) ⟨hx, hb, hml, hown, hts⟩ (c_X6_makeRuns_2 l dC dI g Wd mk ma mb bk tp h w now na nb nc 0 k1 w1 k5 w5 k6 w6 k2 w2  s.heap.size) (cwV 4 hts gX2_start_X6_makeRuns rfl rfl rfl (by decide +kernel) ⟨Nat.le_of_ble_eq_true rfl, Nat.le_of_ble_eq_true rfl⟩) ⟨PG_blind, va_recv hK hP (ci := 8) (q0 := k1) rfl w1, PG_call hK hG hS hP hD (A_all hD hA hS.1)⟩ rfl rfl hl.1 rfl (lv_room (Nat.le_of_ble_eq_true rfl)) dX2_start_12 ⟨Nat.le_of_ble_eq_true rfl, Nat.le_of_ble_eq_true rfl⟩) hS (fun q _ h => (A_all hD hA hS.1) q h) (A_all hD hA hS.1) (fun u_1 t_1 H_1 L_1 ht_1 hvm_1 hw_1 hB_1 hz_1 hk_1 hS => ?_)
  replace hB_1 := (show va_P (dC, dI) vwCl Wd t_1.heap from hB_1)
  rw [ht_1] at hB_1
  have hP := hB_1
  refine lv_aload_n hx hb dX2_start_15 rfl (lv_at hl 0 rfl) ?_
  refine va_get (D := (dC, dI)) (ci := 4) (v := .ref now) (C := RX2) (T := TX2) (N := 15) hx hb hts hiX2 hown hK hP k0 w0 rfl 5 (by decide) hf39 (fun _ h9 => h9) rfl dX2_start_16 ?_
  refine va_getN (D := (dC, dI)) (ci := 9) (v := .int 0) (C := RX7) (T := TX7) (N := 5) hx hb hts hiX7 hown hK hP k2 w2 rfl 3 (by decide) (nf_27 hG) (fun _ h9 => h9) rfl dX2_start_19 ?_
  refine lv_istore (lv' := [(5, .int 0), (0, .ref t), (1, .ref bk), (2, .ref tp), (3, .int 0), (4, .ref w)]) hx hb dX2_start_22 hl (by decide) rfl (fun ls hl => ?_)
  refine lv_aload_n hx hb dX2_start_24 rfl (lv_at hl 1 rfl) ?_
  refine va_get (D := (dC, dI)) (ci := 4) (v := .ref pa) (C := RX2) (T := TX2) (N := 15) hx hb hts hiX2 hown hK hP k0 w0 rfl 1 (by decide) hf21 (fun _ h9 => h9) rfl dX2_start_25 ?_
  refine lv_aload hx hb dX2_start_28 (lv_at hl 5 rfl) ?_
  refine lv_iload hx hb dX2_start_30 (lv_at hl 0 rfl) ?_
  refine va_calli (va_runV (As := [.ref w, .int 0]) (rest := []) ⟨hx, hb, hml, hown, hts⟩ (c_X3_arrange_0 l dC dI g Wd pa pa1 pa2 w 2 k4 w4 k6 w6  H_1.size) (cwV 2 hts gX2_start_X3_arrange rfl rfl rfl (by decide +kernel) ⟨Nat.le_of_ble_eq_true rfl, Nat.le_of_ble_eq_true rfl⟩) ⟨PG_blind, va_recv hK hP (ci := 5) (q0 := k4) rfl w4, PG_call hK hG hS hP hD (A_all hD hA hS.1)⟩ rfl rfl hl.1 rfl (lv_room (Nat.le_of_ble_eq_true rfl)) dX2_start_32 ⟨Nat.le_of_ble_eq_true rfl, Nat.le_of_ble_eq_true rfl⟩) hS (fun q _ h => (A_all hD hA hS.1) q h) (A_all hD hA hS.1) (fun r_2 u_2 t_2 H_2 L_2 ht_2 hvm_2 hw_2 hB_2 hz_2 hk_2 hS => ?_)
  replace hB_2 := (show va_P (dC, dI) vwCl Wd t_2.heap from hB_2)
  rw [ht_2] at hB_2
  have hP := hB_2
  obtain rfl : r_2 = 0 := hw_2
  refine lv_istore (lv' := [(6, .int 0), (5, .int 0), (0, .ref t), (1, .ref bk), (2, .ref tp), (3, .int 0), (4, .ref w)]) hx hb dX2_start_35 hl (by decide) rfl (fun ls hl => ?_)
  refine lv_iload hx hb dX2_start_37 (lv_at hl 1 rfl) ?_
  refine lv_istore (lv' := [(7, .int 0), (6, .int 0), (5, .int 0), (0, .ref t), (1, .ref bk), (2, .ref tp), (3, .int 0), (4, .ref w)]) hx hb dX2_start_39 hl (by decide) rfl (fun ls hl => ?_)
  refine lv_iload hx hb dX2_start_41 (lv_at hl 0 rfl) ?_
  refine lv_iload hx hb dX2_start_43 (lv_at hl 1 rfl) ?_
  refine lv_icmp_ge (tgt := 61) hx hb dX2_start_45 (by decide) (fun c_3 => ?_) (fun c_3 => absurd (by decide) c_3)
  refine lv_aload_n hx hb dX2_start_61 rfl (lv_at hl 3 rfl) ?_
  refine va_get (D := (dC, dI)) (ci := 4) (v := .ref made) (C := RX2) (T := TX2) (N := 15) hx hb hts hiX2 hown hK hP k0 w0 rfl 6 (by decide) hf43 (fun _ h9 => h9) rfl dX2_start_62 ?_
  refine va_callv (va_runV (As := []) (rest := []) ⟨hx, hb, hml, hown, hts⟩ (c_X7_empty l dC dI g Wd made da db dc k3 w3  H_2.size) (cwV 0 hts gX2_start_X7_empty rfl rfl rfl (by decide +kernel) ⟨Nat.le_of_ble_eq_true rfl, Nat.le_of_ble_eq_true rfl⟩) ⟨PG_blind, va_recv hK hP (ci := 9) (q0 := k3) rfl w3, PG_call hK hG hS hP hD (A_all hD hA hS.1)⟩ rfl rfl hl.1 rfl (lv_room (Nat.le_of_ble_eq_true rfl)) dX2_start_65 ⟨Nat.le_of_ble_eq_true rfl, Nat.le_of_ble_eq_true rfl⟩) hS (fun q _ h => (A_all hD hA hS.1) q h) (A_all hD hA hS.1) (fun u_4 t_4 H_4 L_4 ht_4 hvm_4 hw_4 hB_4 hz_4 hk_4 hS => ?_)
  replace hB_4 := (show va_P (dC, dI) vwCl Wd t_4.heap from hB_4)
  rw [ht_4] at hB_4
  have hP := hB_4
  refine lv_aload_n hx hb dX2_start_68 rfl (lv_at hl 3 rfl) ?_
  refine lv_iload_n hx hb dX2_start_69 rfl (lv_at hl 6 rfl) ?_
  refine va_putS (D := (dC, dI)) (ci := 4) (v := .int 0) (ty := .int) (C := RX2) (T := TX2) (N := 15) hx hb hts hiX2 tyX2 tyX2_ok nmX2 hown hK hP hD hS k0 w0 rfl 8 (by decide) hf49 (fun _ h9 => h9) rfl (by decide +kernel) rfl rfl (Nat.le_of_ble_eq_true rfl) rfl dX2_start_70 (fun H_5 L_6 hP hS => ?_)
  refine lv_aload_n hx hb dX2_start_73 rfl (lv_at hl 3 rfl) ?_
  refine lv_iconst (v := 0) hx hb dX2_start_74 (by decide) ?_
  refine va_putS (D := (dC, dI)) (ci := 4) (v := .int 0) (ty := .int) (C := RX2) (T := TX2) (N := 15) hx hb hts hiX2 tyX2 tyX2_ok nmX2 hown hK hP hD hS k0 w0 rfl 9 (by decide) hf52 (fun _ h9 => h9) rfl (by decide +kernel) rfl rfl (Nat.le_of_ble_eq_true rfl) rfl dX2_start_75 (fun H_7 L_8 hP hS => ?_)
  refine lv_aload_n hx hb dX2_start_78 rfl (lv_at hl 3 rfl) ?_
  refine lv_iconst (v := 0) hx hb dX2_start_79 (by decide) ?_
  refine va_putS (D := (dC, dI)) (ci := 4) (v := .int 0) (ty := .int) (C := RX2) (T := TX2) (N := 15) hx hb hts hiX2 tyX2 tyX2_ok nmX2 hown hK hP hD hS k0 w0 rfl 10 (by decide) hf55 (fun _ h9 => h9) rfl (by decide +kernel) rfl rfl (Nat.le_of_ble_eq_true rfl) rfl dX2_start_80 (fun H_9 L_10 hP hS => ?_)
  refine lv_aload_n hx hb dX2_start_83 rfl (lv_at hl 3 rfl) ?_
  refine lv_aload_n hx hb dX2_start_84 rfl (lv_at hl 5 rfl) ?_
  refine va_getN (D := (dC, dI)) (ci := 11) (v := .int 0) (C := RX9) (T := TX9) (N := 2) hx hb hts hiX9 hown hK hP k5 w5 rfl 1 (by decide) (nf_1 hG) (fun _ h9 => h9) rfl dX2_start_85 ?_
  refine va_putS (D := (dC, dI)) (ci := 4) (v := .int 0) (ty := .int) (C := RX2) (T := TX2) (N := 15) hx hb hts hiX2 tyX2 tyX2_ok nmX2 hown hK hP hD hS k0 w0 rfl 11 (by decide) hf58 (fun _ h9 => h9) rfl (by decide +kernel) rfl rfl (Nat.le_of_ble_eq_true rfl) rfl dX2_start_88 (fun H_11 L_12 hP hS => ?_)
  refine lv_aload_n hx hb dX2_start_91 rfl (lv_at hl 3 rfl) ?_
  refine lv_iconst (v := 0) hx hb dX2_start_92 (by decide) ?_
  refine va_putS (D := (dC, dI)) (ci := 4) (v := .int 0) (ty := .int) (C := RX2) (T := TX2) (N := 15) hx hb hts hiX2 tyX2 tyX2_ok nmX2 hown hK hP hD hS k0 w0 rfl 12 (by decide) hf61 (fun _ h9 => h9) rfl (by decide +kernel) rfl rfl (Nat.le_of_ble_eq_true rfl) rfl dX2_start_93 (fun H_13 L_14 hP hS => ?_)
  refine lv_aload_n hx hb dX2_start_96 rfl (lv_at hl 3 rfl) ?_
  refine lv_iconst (v := 0) hx hb dX2_start_97 (by decide) ?_
  refine va_putS (D := (dC, dI)) (ci := 4) (v := .int 0) (ty := .int) (C := RX2) (T := TX2) (N := 15) hx hb hts hiX2 tyX2 tyX2_ok nmX2 hown hK hP hD hS k0 w0 rfl 13 (by decide) hf64 (fun _ h9 => h9) rfl (by decide +kernel) rfl rfl (Nat.le_of_ble_eq_true rfl) rfl dX2_start_98 (fun H_15 L_16 hP hS => ?_)
  refine lv_aload_n hx hb dX2_start_101 rfl (lv_at hl 3 rfl) ?_
  refine lv_iconst (v := 0) hx hb dX2_start_102 (by decide) ?_
  refine va_putS (D := (dC, dI)) (ci := 4) (v := .int 0) (ty := .int) (C := RX2) (T := TX2) (N := 15) hx hb hts hiX2 tyX2 tyX2_ok nmX2 hown hK hP hD hS k0 w0 rfl 14 (by decide) hf67 (fun _ h9 => h9) rfl (by decide +kernel) rfl rfl (Nat.le_of_ble_eq_true rfl) rfl dX2_start_103 (fun H_17 L_18 hP hS => ?_)
  refine lv_iload hx hb dX2_start_106 (lv_at hl 2 rfl) ?_
  exact W.iret (v := 0) hx hb hr (fun t ht hW => ⟨⟨0, (), rfl, rfl, P_at ht hP⟩, hS.F ht⟩) hS.2.2 dX2_start_108
set_option maxHeartbeats 4000000 in
set_option maxRecDepth 100000 in
theorem c_X2_doWhole_20 (l : Launch) (dC : Nat → ClassId) (dI : Nat → Nat → Nat) (g : Nat → ClassId) (Wd : va_W) (t : Nat) (mk : Nat) (pa : Nat) (ii : Nat) (pl : Nat) (now : Nat) (made : Nat) (nx : Nat) (ma : Nat) (mb : Nat) (na : Nat) (nb : Nat) (nc : Nat) (da : Nat) (db : Nat) (dc : Nat) (pa1 : Nat) (pa2 : Nat) (bk : Nat) (tp : Nat) (h : Nat) (u : Nat) (hu : Nat) (w : Nat) (k0 : Nat) (w0 : Wd[k0]? = some (t, .inr (4, [.ref mk, .ref pa, .ref ii, .ref pl, .int 0, .ref now, .ref made, .ref nx, .int 0, .int 0, .int 0, .int 0, .int 0, .int 0, .int 0]))) (k1 : Nat) (w1 : Wd[k1]? = some (mk, .inr (8, [.ref ma, .ref mb, .int 0]))) (k2 : Nat) (w2 : Wd[k2]? = some (now, .inr (9, [.ref na, .ref nb, .ref nc, .int 0, .int 0]))) (k3 : Nat) (w3 : Wd[k3]? = some (made, .inr (9, [.ref da, .ref db, .ref dc, .int 0, .int 0]))) (k4 : Nat) (w4 : Wd[k4]? = some (pa, .inr (5, [.ref pa1, .ref pa2, .int 0, .int 2, .int 0, .int 0]))) (k5 : Nat) (w5 : Wd[k5]? = some (tp, .inr (11, [.ref h, .int 0]))) (k6 : Nat) (w6 : Wd[k6]? = some (u, .inr (11, [.ref hu, .int 0]))) (k7 : Nat) (w7 : Wd[k7]? = some (w, .inr (10, [.int 0, .int 2, .int 4, .int 0, .int 2]))) (sz : Nat) : Met l yX2_doWhole wsX2_doWhole ({ frames := 3, cells := 0, slots := 0, locals := 79 }) (va_Pc [.ref t, .ref bk, .ref tp, .ref u, .ref w] (PG (dC, dI) g Wd sz)) (va_Qv (fun (_ : Unit) => True) (fun (_ : Unit) t => va_P (dC, dI) vwCl Wd t.heap) (va_A Wd sz)) 0 0 (va_A Wd sz) := by
  refine Met.ofW (cc := cX2_doWhole) (maxL := 6) (ret := none) (by decide) rfl ?_
  intro p e s m args below meth c s₁ B hml hv
  obtain ⟨rfl, hsz, hP, hK, hD0, hG⟩ := hv
  have hx := B.exec
  have hb := B.bytes
  have hr := B.returns
  have hts := atoms_spec (ws := wsX2_doWhole) B.pre
  have hown : s.vm.findClass RX2 = some m.cls := findClass_of_methodNamed B.named
  have hlocks := B.notSynchronized
  subst hsz
  have hD := hD0.self (sz := s.heap.size)
  generalize hAe : va_A Wd s.heap.size = A at hD hG ⊢
  have hA : ∀ q : Nat, s.heap.size ≤ q → A q := fun q h => by rw [← hAe]; exact Or.inr h
  have hS : va_S A s.heap s.heap [] := va_S.rf
  have hl := lv_entry ([.ref t, .ref bk, .ref tp, .ref u, .ref w]) (n := 6) (Nat.le_of_ble_eq_true rfl)
  rw [lg_entry_eq]
  generalize (lg_sl ([.ref t, .ref bk, .ref tp, .ref u, .ref w]) ++ List.replicate (6 - (lg_sl ([.ref t, .ref bk, .ref tp, .ref u, .ref w])).length) Slot.unset).toArray = ls at hl ⊢
  have hl : lv_has ls 6 [(0, .ref t), (1, .ref bk), (2, .ref tp), (3, .ref u), (4, .ref w)] := hl
  refine lv_aload_n hx hb dX2_doWhole_0 rfl (lv_at hl 0 rfl) ?_
  refine lv_aload_n hx hb dX2_doWhole_1 rfl (lv_at hl 1 rfl) ?_
  refine lv_aload_n hx hb dX2_doWhole_2 rfl (lv_at hl 2 rfl) ?_
  refine lv_iconst (v := 0) hx hb dX2_doWhole_3 (by decide) ?_
  refine lv_aload hx hb dX2_doWhole_4 (lv_at hl 4 rfl) ?_
  refine va_calli (va_runV (As := [.ref bk, .ref tp, .int 0, .ref w]) (rest := []) ⟨hx, hb, hml, hown, hts⟩ (c_X2_start_20 l dC dI g Wd t mk pa ii pl now made nx ma mb na nb nc da db dc pa1 pa2 bk tp h w k0 w0 k1 w1 k2 w2 k3 w3 k4 w4 k5 w5 k7 w7  s.heap.size) (cwV 4 hts gX2_doWhole_X2_start rfl rfl rfl (by decide +kernel) ⟨Nat.le_of_ble_eq_true rfl, Nat.le_of_ble_eq_true rfl⟩) ⟨PG_blind, va_recv hK hP (ci := 4) (q0 := k0) rfl w0, PG_call hK hG hS hP hD (A_all hD hA hS.1)⟩ rfl rfl hl.1 rfl (lv_room (Nat.le_of_ble_eq_true rfl)) dX2_doWhole_6 ⟨Nat.le_of_ble_eq_true rfl, Nat.le_of_ble_eq_true rfl⟩) hS (fun q _ h => (A_all hD hA hS.1) q h) (A_all hD hA hS.1) (fun r_1 u_1 t_1 H_1 L_1 ht_1 hvm_1 hw_1 hB_1 hz_1 hk_1 hS => ?_)
  replace hB_1 := (show va_P (dC, dI) vwCl Wd t_1.heap from hB_1)
  rw [ht_1] at hB_1
  have hP := hB_1
  obtain rfl : r_1 = 0 := hw_1
  refine lv_pop hx hb dX2_doWhole_9 rfl ?_
  refine lv_iconst (v := 0) hx hb dX2_doWhole_10 (by decide) ?_
  refine lv_istore (lv' := [(5, .int 0), (0, .ref t), (1, .ref bk), (2, .ref tp), (3, .ref u), (4, .ref w)]) hx hb dX2_doWhole_11 hl (by decide) rfl (fun ls hl => ?_)
  refine lv_iload hx hb dX2_doWhole_13 (lv_at hl 0 rfl) ?_
  refine lv_sipush (v := 200) hx hb dX2_doWhole_15 (by decide) ?_
  refine lv_icmp_ge (tgt := 38) hx hb dX2_doWhole_18 (by decide) (fun c_2 => absurd c_2 (by decide)) (fun c_2 => ?_)
  refine lv_aload_n hx hb dX2_doWhole_21 rfl (lv_at hl 1 rfl) ?_
  refine va_calli (va_runV (As := []) (rest := []) ⟨hx, hb, hml, hown, hts⟩ (c_X2_isOver l dC dI g Wd t mk pa ii pl now made nx na nb nc 0 k0 w0 k2 w2  H_1.size) (cwV 0 hts gX2_doWhole_X2_isOver rfl rfl rfl (by decide +kernel) ⟨Nat.le_of_ble_eq_true rfl, Nat.le_of_ble_eq_true rfl⟩) ⟨PG_blind, va_recv hK hP (ci := 4) (q0 := k0) rfl w0, PG_call hK hG hS hP hD (A_all hD hA hS.1)⟩ rfl rfl hl.1 rfl (lv_room (Nat.le_of_ble_eq_true rfl)) dX2_doWhole_22 ⟨Nat.le_of_ble_eq_true rfl, Nat.le_of_ble_eq_true rfl⟩) hS (fun q _ h => (A_all hD hA hS.1) q h) (A_all hD hA hS.1) (fun r_3 u_3 t_3 H_3 L_3 ht_3 hvm_3 hw_3 hB_3 hz_3 hk_3 hS => ?_)
  replace hB_3 := (show va_P (dC, dI) vwCl Wd t_3.heap from hB_3)
  rw [ht_3] at hB_3
  have hP := hB_3
  obtain rfl : r_3 = 1 := hw_3
  refine lv_if_ne (tgt := 38) hx hb dX2_doWhole_25 (by decide) (fun c_4 => ?_) (fun c_4 => absurd c_4 (by decide))
  refine lv_aload_n hx hb dX2_doWhole_38 rfl (lv_at hl 1 rfl) ?_
  refine lv_aload_n hx hb dX2_doWhole_39 rfl (lv_at hl 4 rfl) ?_
  refine va_callv (va_runV (As := [.ref u]) (rest := []) ⟨hx, hb, hml, hown, hts⟩ (c_X2_writeTo l dC dI g Wd t mk pa ii pl now made nx na nb nc u hu 0 k0 w0 k2 w2 k6 w6  H_3.size) (cwV 1 hts gX2_doWhole_X2_writeTo rfl rfl rfl (by decide +kernel) ⟨Nat.le_of_ble_eq_true rfl, Nat.le_of_ble_eq_true rfl⟩) ⟨PG_blind, va_recv hK hP (ci := 4) (q0 := k0) rfl w0, PG_call hK hG hS hP hD (A_all hD hA hS.1)⟩ rfl rfl hl.1 rfl (lv_room (Nat.le_of_ble_eq_true rfl)) dX2_doWhole_40 ⟨Nat.le_of_ble_eq_true rfl, Nat.le_of_ble_eq_true rfl⟩) hS (fun q _ h => (A_all hD hA hS.1) q h) (A_all hD hA hS.1) (fun u_5 t_5 H_5 L_5 ht_5 hvm_5 hw_5 hB_5 hz_5 hk_5 hS => ?_)
  replace hB_5 := (show va_P (dC, dI) vwCl Wd t_5.heap from hB_5)
  rw [ht_5] at hB_5
  have hP := hB_5
  exact W.vret hx hb hr (fun t ht hW => ⟨⟨(), rfl, trivial, P_at ht hP⟩, hS.F ht⟩) hS.2.2 dX2_doWhole_43
set_option maxHeartbeats 4000000 in
set_option maxRecDepth 100000 in
theorem c_X2_start_21 (l : Launch) (dC : Nat → ClassId) (dI : Nat → Nat → Nat) (g : Nat → ClassId) (Wd : va_W) (t : Nat) (mk : Nat) (pa : Nat) (ii : Nat) (pl : Nat) (now : Nat) (made : Nat) (nx : Nat) (ma : Nat) (mb : Nat) (na : Nat) (nb : Nat) (nc : Nat) (da : Nat) (db : Nat) (dc : Nat) (pa1 : Nat) (pa2 : Nat) (bk : Nat) (tp : Nat) (h : Nat) (w : Nat) (k0 : Nat) (w0 : Wd[k0]? = some (t, .inr (4, [.ref mk, .ref pa, .ref ii, .ref pl, .int 0, .ref now, .ref made, .ref nx, .int 0, .int 0, .int 0, .int 0, .int 0, .int 0, .int 0]))) (k1 : Nat) (w1 : Wd[k1]? = some (mk, .inr (8, [.ref ma, .ref mb, .int 0]))) (k2 : Nat) (w2 : Wd[k2]? = some (now, .inr (9, [.ref na, .ref nb, .ref nc, .int 0, .int 0]))) (k3 : Nat) (w3 : Wd[k3]? = some (made, .inr (9, [.ref da, .ref db, .ref dc, .int 0, .int 0]))) (k4 : Nat) (w4 : Wd[k4]? = some (pa, .inr (5, [.ref pa1, .ref pa2, .int 1, .int 2, .int 0, .int 0]))) (k5 : Nat) (w5 : Wd[k5]? = some (tp, .inr (11, [.ref h, .int 0]))) (k6 : Nat) (w6 : Wd[k6]? = some (w, .inr (10, [.int 0, .int 2, .int 4, .int 1, .int 2]))) (sz : Nat) : Met l yX2_start wsX2_start ({ frames := 2, cells := 0, slots := 0, locals := 52 }) (va_Pc [.ref t, .ref bk, .ref tp, .int 0, .ref w] (PG (dC, dI) g Wd sz)) (va_Qi (fun (r : Int32) (_ : Unit) => r = 0) (fun (_ : Unit) t => va_P (dC, dI) vwCl Wd t.heap) (va_A Wd sz)) 0 0 (va_A Wd sz) := by
  refine Met.ofW (cc := cX2_start) (maxL := 8) (ret := (some .int)) (by decide) rfl ?_
  intro p e s m args below meth c s₁ B hml hv
  obtain ⟨rfl, hsz, hP, hK, hD0, hG⟩ := hv
  have hx := B.exec
  have hb := B.bytes
  have hr := B.returns
  have hts := atoms_spec (ws := wsX2_start) B.pre
  have hown : s.vm.findClass RX2 = some m.cls := findClass_of_methodNamed B.named
  have hlocks := B.notSynchronized
  subst hsz
  have hD := hD0.self (sz := s.heap.size)
  generalize hAe : va_A Wd s.heap.size = A at hD hG ⊢
  have hA : ∀ q : Nat, s.heap.size ≤ q → A q := fun q h => by rw [← hAe]; exact Or.inr h
  have hS : va_S A s.heap s.heap [] := va_S.rf
  have hl := lv_entry ([.ref t, .ref bk, .ref tp, .int 0, .ref w]) (n := 8) (Nat.le_of_ble_eq_true rfl)
  rw [lg_entry_eq]
  generalize (lg_sl ([.ref t, .ref bk, .ref tp, .int 0, .ref w]) ++ List.replicate (8 - (lg_sl ([.ref t, .ref bk, .ref tp, .int 0, .ref w])).length) Slot.unset).toArray = ls at hl ⊢
  have hl : lv_has ls 8 [(0, .ref t), (1, .ref bk), (2, .ref tp), (3, .int 0), (4, .ref w)] := hl
  have hf12 := hts (Cond.fieldLink RX2 12 "RunmergeOffice$Job" "maker" "LRunmergeOffice$RunMaker;") (by decide +kernel)
  have hiX2 : ∀ w ∈ u_ws RX2 TX2 15, w ∈ wsX2_start := by decide +kernel
  have hf39 := hts (Cond.fieldLink RX2 39 "RunmergeOffice$Job" "now" "LRunmergeOffice$RunRow;") (by decide +kernel)
  have hiX7 : ∀ w ∈ u_ws RX7 TX7 5, w ∈ wsX2_start := by decide +kernel
  have hf21 := hts (Cond.fieldLink RX2 21 "RunmergeOffice$Job" "pass" "LRunmergeOffice$Pass;") (by decide +kernel)
  have hf43 := hts (Cond.fieldLink RX2 43 "RunmergeOffice$Job" "made" "LRunmergeOffice$RunRow;") (by decide +kernel)
  have hf49 := hts (Cond.fieldLink RX2 49 "RunmergeOffice$Job" "target" "I") (by decide +kernel)
  have hf52 := hts (Cond.fieldLink RX2 52 "RunmergeOffice$Job" "passes" "I") (by decide +kernel)
  have hf55 := hts (Cond.fieldLink RX2 55 "RunmergeOffice$Job" "merges" "I") (by decide +kernel)
  have hiX9 : ∀ w ∈ u_ws RX9 TX9 2, w ∈ wsX2_start := by decide +kernel
  have hf58 := hts (Cond.fieldLink RX2 58 "RunmergeOffice$Job" "moves" "I") (by decide +kernel)
  have hf61 := hts (Cond.fieldLink RX2 61 "RunmergeOffice$Job" "movesOfPass" "I") (by decide +kernel)
  have hf64 := hts (Cond.fieldLink RX2 64 "RunmergeOffice$Job" "lostMoves" "I") (by decide +kernel)
  have hf67 := hts (Cond.fieldLink RX2 67 "RunmergeOffice$Job" "timesTorn" "I") (by decide +kernel)
  refine lv_aload_n hx hb dX2_start_0 rfl (lv_at hl 0 rfl) ?_
  refine va_get (D := (dC, dI)) (ci := 4) (v := .ref mk) (C := RX2) (T := TX2) (N := 15) hx hb hts hiX2 hown hK hP k0 w0 rfl 0 (by decide) hf12 (fun _ h9 => h9) rfl dX2_start_1 ?_
  refine lv_aload_n hx hb dX2_start_4 rfl (lv_at hl 1 rfl) ?_
  refine lv_aload_n hx hb dX2_start_5 rfl (lv_at hl 2 rfl) ?_
  refine lv_aload hx hb dX2_start_6 (lv_at hl 4 rfl) ?_
  refine lv_aload_n hx hb dX2_start_8 rfl (lv_at hl 0 rfl) ?_
  refine va_get (D := (dC, dI)) (ci := 4) (v := .ref now) (C := RX2) (T := TX2) (N := 15) hx hb hts hiX2 hown hK hP k0 w0 rfl 5 (by decide) hf39 (fun _ h9 => h9) rfl dX2_start_9 ?_
  refine va_callv (va_runV (As := [.ref bk, .ref tp, .ref w, .ref now]) (rest := []) ⟨hx, hb, hml, hown, hts⟩ (c_X6_makeRuns_2 l dC dI g Wd mk ma mb bk tp h w now na nb nc 1 k1 w1 k5 w5 k6 w6 k2 w2  s.heap.size) (cwV 4 hts gX2_start_X6_makeRuns rfl rfl rfl (by decide +kernel) ⟨Nat.le_of_ble_eq_true rfl, Nat.le_of_ble_eq_true rfl⟩) ⟨PG_blind, va_recv hK hP (ci := 8) (q0 := k1) rfl w1, PG_call hK hG hS hP hD (A_all hD hA hS.1)⟩ rfl rfl hl.1 rfl (lv_room (Nat.le_of_ble_eq_true rfl)) dX2_start_12 ⟨Nat.le_of_ble_eq_true rfl, Nat.le_of_ble_eq_true rfl⟩) hS (fun q _ h => (A_all hD hA hS.1) q h) (A_all hD hA hS.1) (fun u_1 t_1 H_1 L_1 ht_1 hvm_1 hw_1 hB_1 hz_1 hk_1 hS => ?_)
  replace hB_1 := (show va_P (dC, dI) vwCl Wd t_1.heap from hB_1)
  rw [ht_1] at hB_1
  have hP := hB_1
  refine lv_aload_n hx hb dX2_start_15 rfl (lv_at hl 0 rfl) ?_
  refine va_get (D := (dC, dI)) (ci := 4) (v := .ref now) (C := RX2) (T := TX2) (N := 15) hx hb hts hiX2 hown hK hP k0 w0 rfl 5 (by decide) hf39 (fun _ h9 => h9) rfl dX2_start_16 ?_
  refine va_getN (D := (dC, dI)) (ci := 9) (v := .int 0) (C := RX7) (T := TX7) (N := 5) hx hb hts hiX7 hown hK hP k2 w2 rfl 3 (by decide) (nf_27 hG) (fun _ h9 => h9) rfl dX2_start_19 ?_
  refine lv_istore (lv' := [(5, .int 0), (0, .ref t), (1, .ref bk), (2, .ref tp), (3, .int 0), (4, .ref w)]) hx hb dX2_start_22 hl (by decide) rfl (fun ls hl => ?_)
  refine lv_aload_n hx hb dX2_start_24 rfl (lv_at hl 1 rfl) ?_
  refine va_get (D := (dC, dI)) (ci := 4) (v := .ref pa) (C := RX2) (T := TX2) (N := 15) hx hb hts hiX2 hown hK hP k0 w0 rfl 1 (by decide) hf21 (fun _ h9 => h9) rfl dX2_start_25 ?_
  refine lv_aload hx hb dX2_start_28 (lv_at hl 5 rfl) ?_
  refine lv_iload hx hb dX2_start_30 (lv_at hl 0 rfl) ?_
  refine va_calli (va_runV (As := [.ref w, .int 0]) (rest := []) ⟨hx, hb, hml, hown, hts⟩ (c_X3_arrange_1 l dC dI g Wd pa pa1 pa2 w 2 k4 w4 k6 w6  H_1.size) (cwV 2 hts gX2_start_X3_arrange rfl rfl rfl (by decide +kernel) ⟨Nat.le_of_ble_eq_true rfl, Nat.le_of_ble_eq_true rfl⟩) ⟨PG_blind, va_recv hK hP (ci := 5) (q0 := k4) rfl w4, PG_call hK hG hS hP hD (A_all hD hA hS.1)⟩ rfl rfl hl.1 rfl (lv_room (Nat.le_of_ble_eq_true rfl)) dX2_start_32 ⟨Nat.le_of_ble_eq_true rfl, Nat.le_of_ble_eq_true rfl⟩) hS (fun q _ h => (A_all hD hA hS.1) q h) (A_all hD hA hS.1) (fun r_2 u_2 t_2 H_2 L_2 ht_2 hvm_2 hw_2 hB_2 hz_2 hk_2 hS => ?_)
  replace hB_2 := (show va_P (dC, dI) vwCl Wd t_2.heap from hB_2)
  rw [ht_2] at hB_2
  have hP := hB_2
  obtain rfl : r_2 = 0 := hw_2
  refine lv_istore (lv' := [(6, .int 0), (5, .int 0), (0, .ref t), (1, .ref bk), (2, .ref tp), (3, .int 0), (4, .ref w)]) hx hb dX2_start_35 hl (by decide) rfl (fun ls hl => ?_)
  refine lv_iload hx hb dX2_start_37 (lv_at hl 1 rfl) ?_
  refine lv_istore (lv' := [(7, .int 0), (6, .int 0), (5, .int 0), (0, .ref t), (1, .ref bk), (2, .ref tp), (3, .int 0), (4, .ref w)]) hx hb dX2_start_39 hl (by decide) rfl (fun ls hl => ?_)
  refine lv_iload hx hb dX2_start_41 (lv_at hl 0 rfl) ?_
  refine lv_iload hx hb dX2_start_43 (lv_at hl 1 rfl) ?_
  refine lv_icmp_ge (tgt := 61) hx hb dX2_start_45 (by decide) (fun c_3 => ?_) (fun c_3 => absurd (by decide) c_3)
  refine lv_aload_n hx hb dX2_start_61 rfl (lv_at hl 3 rfl) ?_
  refine va_get (D := (dC, dI)) (ci := 4) (v := .ref made) (C := RX2) (T := TX2) (N := 15) hx hb hts hiX2 hown hK hP k0 w0 rfl 6 (by decide) hf43 (fun _ h9 => h9) rfl dX2_start_62 ?_
  refine va_callv (va_runV (As := []) (rest := []) ⟨hx, hb, hml, hown, hts⟩ (c_X7_empty l dC dI g Wd made da db dc k3 w3  H_2.size) (cwV 0 hts gX2_start_X7_empty rfl rfl rfl (by decide +kernel) ⟨Nat.le_of_ble_eq_true rfl, Nat.le_of_ble_eq_true rfl⟩) ⟨PG_blind, va_recv hK hP (ci := 9) (q0 := k3) rfl w3, PG_call hK hG hS hP hD (A_all hD hA hS.1)⟩ rfl rfl hl.1 rfl (lv_room (Nat.le_of_ble_eq_true rfl)) dX2_start_65 ⟨Nat.le_of_ble_eq_true rfl, Nat.le_of_ble_eq_true rfl⟩) hS (fun q _ h => (A_all hD hA hS.1) q h) (A_all hD hA hS.1) (fun u_4 t_4 H_4 L_4 ht_4 hvm_4 hw_4 hB_4 hz_4 hk_4 hS => ?_)
  replace hB_4 := (show va_P (dC, dI) vwCl Wd t_4.heap from hB_4)
  rw [ht_4] at hB_4
  have hP := hB_4
  refine lv_aload_n hx hb dX2_start_68 rfl (lv_at hl 3 rfl) ?_
  refine lv_iload_n hx hb dX2_start_69 rfl (lv_at hl 6 rfl) ?_
  refine va_putS (D := (dC, dI)) (ci := 4) (v := .int 0) (ty := .int) (C := RX2) (T := TX2) (N := 15) hx hb hts hiX2 tyX2 tyX2_ok nmX2 hown hK hP hD hS k0 w0 rfl 8 (by decide) hf49 (fun _ h9 => h9) rfl (by decide +kernel) rfl rfl (Nat.le_of_ble_eq_true rfl) rfl dX2_start_70 (fun H_5 L_6 hP hS => ?_)
  refine lv_aload_n hx hb dX2_start_73 rfl (lv_at hl 3 rfl) ?_
  refine lv_iconst (v := 0) hx hb dX2_start_74 (by decide) ?_
  refine va_putS (D := (dC, dI)) (ci := 4) (v := .int 0) (ty := .int) (C := RX2) (T := TX2) (N := 15) hx hb hts hiX2 tyX2 tyX2_ok nmX2 hown hK hP hD hS k0 w0 rfl 9 (by decide) hf52 (fun _ h9 => h9) rfl (by decide +kernel) rfl rfl (Nat.le_of_ble_eq_true rfl) rfl dX2_start_75 (fun H_7 L_8 hP hS => ?_)
  refine lv_aload_n hx hb dX2_start_78 rfl (lv_at hl 3 rfl) ?_
  refine lv_iconst (v := 0) hx hb dX2_start_79 (by decide) ?_
  refine va_putS (D := (dC, dI)) (ci := 4) (v := .int 0) (ty := .int) (C := RX2) (T := TX2) (N := 15) hx hb hts hiX2 tyX2 tyX2_ok nmX2 hown hK hP hD hS k0 w0 rfl 10 (by decide) hf55 (fun _ h9 => h9) rfl (by decide +kernel) rfl rfl (Nat.le_of_ble_eq_true rfl) rfl dX2_start_80 (fun H_9 L_10 hP hS => ?_)
  refine lv_aload_n hx hb dX2_start_83 rfl (lv_at hl 3 rfl) ?_
  refine lv_aload_n hx hb dX2_start_84 rfl (lv_at hl 5 rfl) ?_
  refine va_getN (D := (dC, dI)) (ci := 11) (v := .int 0) (C := RX9) (T := TX9) (N := 2) hx hb hts hiX9 hown hK hP k5 w5 rfl 1 (by decide) (nf_1 hG) (fun _ h9 => h9) rfl dX2_start_85 ?_
  refine va_putS (D := (dC, dI)) (ci := 4) (v := .int 0) (ty := .int) (C := RX2) (T := TX2) (N := 15) hx hb hts hiX2 tyX2 tyX2_ok nmX2 hown hK hP hD hS k0 w0 rfl 11 (by decide) hf58 (fun _ h9 => h9) rfl (by decide +kernel) rfl rfl (Nat.le_of_ble_eq_true rfl) rfl dX2_start_88 (fun H_11 L_12 hP hS => ?_)
  refine lv_aload_n hx hb dX2_start_91 rfl (lv_at hl 3 rfl) ?_
  refine lv_iconst (v := 0) hx hb dX2_start_92 (by decide) ?_
  refine va_putS (D := (dC, dI)) (ci := 4) (v := .int 0) (ty := .int) (C := RX2) (T := TX2) (N := 15) hx hb hts hiX2 tyX2 tyX2_ok nmX2 hown hK hP hD hS k0 w0 rfl 12 (by decide) hf61 (fun _ h9 => h9) rfl (by decide +kernel) rfl rfl (Nat.le_of_ble_eq_true rfl) rfl dX2_start_93 (fun H_13 L_14 hP hS => ?_)
  refine lv_aload_n hx hb dX2_start_96 rfl (lv_at hl 3 rfl) ?_
  refine lv_iconst (v := 0) hx hb dX2_start_97 (by decide) ?_
  refine va_putS (D := (dC, dI)) (ci := 4) (v := .int 0) (ty := .int) (C := RX2) (T := TX2) (N := 15) hx hb hts hiX2 tyX2 tyX2_ok nmX2 hown hK hP hD hS k0 w0 rfl 13 (by decide) hf64 (fun _ h9 => h9) rfl (by decide +kernel) rfl rfl (Nat.le_of_ble_eq_true rfl) rfl dX2_start_98 (fun H_15 L_16 hP hS => ?_)
  refine lv_aload_n hx hb dX2_start_101 rfl (lv_at hl 3 rfl) ?_
  refine lv_iconst (v := 0) hx hb dX2_start_102 (by decide) ?_
  refine va_putS (D := (dC, dI)) (ci := 4) (v := .int 0) (ty := .int) (C := RX2) (T := TX2) (N := 15) hx hb hts hiX2 tyX2 tyX2_ok nmX2 hown hK hP hD hS k0 w0 rfl 14 (by decide) hf67 (fun _ h9 => h9) rfl (by decide +kernel) rfl rfl (Nat.le_of_ble_eq_true rfl) rfl dX2_start_103 (fun H_17 L_18 hP hS => ?_)
  refine lv_iload hx hb dX2_start_106 (lv_at hl 2 rfl) ?_
  exact W.iret (v := 0) hx hb hr (fun t ht hW => ⟨⟨0, (), rfl, rfl, P_at ht hP⟩, hS.F ht⟩) hS.2.2 dX2_start_108
set_option maxHeartbeats 4000000 in
set_option maxRecDepth 100000 in
theorem c_X2_doWhole_21 (l : Launch) (dC : Nat → ClassId) (dI : Nat → Nat → Nat) (g : Nat → ClassId) (Wd : va_W) (t : Nat) (mk : Nat) (pa : Nat) (ii : Nat) (pl : Nat) (now : Nat) (made : Nat) (nx : Nat) (ma : Nat) (mb : Nat) (na : Nat) (nb : Nat) (nc : Nat) (da : Nat) (db : Nat) (dc : Nat) (pa1 : Nat) (pa2 : Nat) (bk : Nat) (tp : Nat) (h : Nat) (u : Nat) (hu : Nat) (w : Nat) (k0 : Nat) (w0 : Wd[k0]? = some (t, .inr (4, [.ref mk, .ref pa, .ref ii, .ref pl, .int 0, .ref now, .ref made, .ref nx, .int 0, .int 0, .int 0, .int 0, .int 0, .int 0, .int 0]))) (k1 : Nat) (w1 : Wd[k1]? = some (mk, .inr (8, [.ref ma, .ref mb, .int 0]))) (k2 : Nat) (w2 : Wd[k2]? = some (now, .inr (9, [.ref na, .ref nb, .ref nc, .int 0, .int 0]))) (k3 : Nat) (w3 : Wd[k3]? = some (made, .inr (9, [.ref da, .ref db, .ref dc, .int 0, .int 0]))) (k4 : Nat) (w4 : Wd[k4]? = some (pa, .inr (5, [.ref pa1, .ref pa2, .int 1, .int 2, .int 0, .int 0]))) (k5 : Nat) (w5 : Wd[k5]? = some (tp, .inr (11, [.ref h, .int 0]))) (k6 : Nat) (w6 : Wd[k6]? = some (u, .inr (11, [.ref hu, .int 0]))) (k7 : Nat) (w7 : Wd[k7]? = some (w, .inr (10, [.int 0, .int 2, .int 4, .int 1, .int 2]))) (sz : Nat) : Met l yX2_doWhole wsX2_doWhole ({ frames := 3, cells := 0, slots := 0, locals := 79 }) (va_Pc [.ref t, .ref bk, .ref tp, .ref u, .ref w] (PG (dC, dI) g Wd sz)) (va_Qv (fun (_ : Unit) => True) (fun (_ : Unit) t => va_P (dC, dI) vwCl Wd t.heap) (va_A Wd sz)) 0 0 (va_A Wd sz) := by
  refine Met.ofW (cc := cX2_doWhole) (maxL := 6) (ret := none) (by decide) rfl ?_
  intro p e s m args below meth c s₁ B hml hv
  obtain ⟨rfl, hsz, hP, hK, hD0, hG⟩ := hv
  have hx := B.exec
  have hb := B.bytes
  have hr := B.returns
  have hts := atoms_spec (ws := wsX2_doWhole) B.pre
  have hown : s.vm.findClass RX2 = some m.cls := findClass_of_methodNamed B.named
  have hlocks := B.notSynchronized
  subst hsz
  have hD := hD0.self (sz := s.heap.size)
  generalize hAe : va_A Wd s.heap.size = A at hD hG ⊢
  have hA : ∀ q : Nat, s.heap.size ≤ q → A q := fun q h => by rw [← hAe]; exact Or.inr h
  have hS : va_S A s.heap s.heap [] := va_S.rf
  have hl := lv_entry ([.ref t, .ref bk, .ref tp, .ref u, .ref w]) (n := 6) (Nat.le_of_ble_eq_true rfl)
  rw [lg_entry_eq]
  generalize (lg_sl ([.ref t, .ref bk, .ref tp, .ref u, .ref w]) ++ List.replicate (6 - (lg_sl ([.ref t, .ref bk, .ref tp, .ref u, .ref w])).length) Slot.unset).toArray = ls at hl ⊢
  have hl : lv_has ls 6 [(0, .ref t), (1, .ref bk), (2, .ref tp), (3, .ref u), (4, .ref w)] := hl
  refine lv_aload_n hx hb dX2_doWhole_0 rfl (lv_at hl 0 rfl) ?_
  refine lv_aload_n hx hb dX2_doWhole_1 rfl (lv_at hl 1 rfl) ?_
  refine lv_aload_n hx hb dX2_doWhole_2 rfl (lv_at hl 2 rfl) ?_
  refine lv_iconst (v := 0) hx hb dX2_doWhole_3 (by decide) ?_
  refine lv_aload hx hb dX2_doWhole_4 (lv_at hl 4 rfl) ?_
  refine va_calli (va_runV (As := [.ref bk, .ref tp, .int 0, .ref w]) (rest := []) ⟨hx, hb, hml, hown, hts⟩ (c_X2_start_21 l dC dI g Wd t mk pa ii pl now made nx ma mb na nb nc da db dc pa1 pa2 bk tp h w k0 w0 k1 w1 k2 w2 k3 w3 k4 w4 k5 w5 k7 w7  s.heap.size) (cwV 4 hts gX2_doWhole_X2_start rfl rfl rfl (by decide +kernel) ⟨Nat.le_of_ble_eq_true rfl, Nat.le_of_ble_eq_true rfl⟩) ⟨PG_blind, va_recv hK hP (ci := 4) (q0 := k0) rfl w0, PG_call hK hG hS hP hD (A_all hD hA hS.1)⟩ rfl rfl hl.1 rfl (lv_room (Nat.le_of_ble_eq_true rfl)) dX2_doWhole_6 ⟨Nat.le_of_ble_eq_true rfl, Nat.le_of_ble_eq_true rfl⟩) hS (fun q _ h => (A_all hD hA hS.1) q h) (A_all hD hA hS.1) (fun r_1 u_1 t_1 H_1 L_1 ht_1 hvm_1 hw_1 hB_1 hz_1 hk_1 hS => ?_)
  replace hB_1 := (show va_P (dC, dI) vwCl Wd t_1.heap from hB_1)
  rw [ht_1] at hB_1
  have hP := hB_1
  obtain rfl : r_1 = 0 := hw_1
  refine lv_pop hx hb dX2_doWhole_9 rfl ?_
  refine lv_iconst (v := 0) hx hb dX2_doWhole_10 (by decide) ?_
  refine lv_istore (lv' := [(5, .int 0), (0, .ref t), (1, .ref bk), (2, .ref tp), (3, .ref u), (4, .ref w)]) hx hb dX2_doWhole_11 hl (by decide) rfl (fun ls hl => ?_)
  refine lv_iload hx hb dX2_doWhole_13 (lv_at hl 0 rfl) ?_
  refine lv_sipush (v := 200) hx hb dX2_doWhole_15 (by decide) ?_
  refine lv_icmp_ge (tgt := 38) hx hb dX2_doWhole_18 (by decide) (fun c_2 => absurd c_2 (by decide)) (fun c_2 => ?_)
  refine lv_aload_n hx hb dX2_doWhole_21 rfl (lv_at hl 1 rfl) ?_
  refine va_calli (va_runV (As := []) (rest := []) ⟨hx, hb, hml, hown, hts⟩ (c_X2_isOver l dC dI g Wd t mk pa ii pl now made nx na nb nc 0 k0 w0 k2 w2  H_1.size) (cwV 0 hts gX2_doWhole_X2_isOver rfl rfl rfl (by decide +kernel) ⟨Nat.le_of_ble_eq_true rfl, Nat.le_of_ble_eq_true rfl⟩) ⟨PG_blind, va_recv hK hP (ci := 4) (q0 := k0) rfl w0, PG_call hK hG hS hP hD (A_all hD hA hS.1)⟩ rfl rfl hl.1 rfl (lv_room (Nat.le_of_ble_eq_true rfl)) dX2_doWhole_22 ⟨Nat.le_of_ble_eq_true rfl, Nat.le_of_ble_eq_true rfl⟩) hS (fun q _ h => (A_all hD hA hS.1) q h) (A_all hD hA hS.1) (fun r_3 u_3 t_3 H_3 L_3 ht_3 hvm_3 hw_3 hB_3 hz_3 hk_3 hS => ?_)
  replace hB_3 := (show va_P (dC, dI) vwCl Wd t_3.heap from hB_3)
  rw [ht_3] at hB_3
  have hP := hB_3
  obtain rfl : r_3 = 1 := hw_3
  refine lv_if_ne (tgt := 38) hx hb dX2_doWhole_25 (by decide) (fun c_4 => ?_) (fun c_4 => absurd c_4 (by decide))
  refine lv_aload_n hx hb dX2_doWhole_38 rfl (lv_at hl 1 rfl) ?_
  refine lv_aload_n hx hb dX2_doWhole_39 rfl (lv_at hl 4 rfl) ?_
  refine va_callv (va_runV (As := [.ref u]) (rest := []) ⟨hx, hb, hml, hown, hts⟩ (c_X2_writeTo l dC dI g Wd t mk pa ii pl now made nx na nb nc u hu 0 k0 w0 k2 w2 k6 w6  H_3.size) (cwV 1 hts gX2_doWhole_X2_writeTo rfl rfl rfl (by decide +kernel) ⟨Nat.le_of_ble_eq_true rfl, Nat.le_of_ble_eq_true rfl⟩) ⟨PG_blind, va_recv hK hP (ci := 4) (q0 := k0) rfl w0, PG_call hK hG hS hP hD (A_all hD hA hS.1)⟩ rfl rfl hl.1 rfl (lv_room (Nat.le_of_ble_eq_true rfl)) dX2_doWhole_40 ⟨Nat.le_of_ble_eq_true rfl, Nat.le_of_ble_eq_true rfl⟩) hS (fun q _ h => (A_all hD hA hS.1) q h) (A_all hD hA hS.1) (fun u_5 t_5 H_5 L_5 ht_5 hvm_5 hw_5 hB_5 hz_5 hk_5 hS => ?_)
  replace hB_5 := (show va_P (dC, dI) vwCl Wd t_5.heap from hB_5)
  rw [ht_5] at hB_5
  have hP := hB_5
  exact W.vret hx hb hr (fun t ht hW => ⟨⟨(), rfl, trivial, P_at ht hP⟩, hS.F ht⟩) hS.2.2 dX2_doWhole_43
set_option maxHeartbeats 4000000 in
set_option maxRecDepth 100000 in
theorem c_X2_start_22 (l : Launch) (dC : Nat → ClassId) (dI : Nat → Nat → Nat) (g : Nat → ClassId) (Wd : va_W) (t : Nat) (mk : Nat) (pa : Nat) (ii : Nat) (pl : Nat) (now : Nat) (made : Nat) (nx : Nat) (ma : Nat) (mb : Nat) (na : Nat) (nb : Nat) (nc : Nat) (da : Nat) (db : Nat) (dc : Nat) (pa1 : Nat) (pa2 : Nat) (bk : Nat) (tp : Nat) (h : Nat) (w : Nat) (k0 : Nat) (w0 : Wd[k0]? = some (t, .inr (4, [.ref mk, .ref pa, .ref ii, .ref pl, .int 0, .ref now, .ref made, .ref nx, .int 0, .int 0, .int 0, .int 0, .int 0, .int 0, .int 0]))) (k1 : Nat) (w1 : Wd[k1]? = some (mk, .inr (8, [.ref ma, .ref mb, .int 0]))) (k2 : Nat) (w2 : Wd[k2]? = some (now, .inr (9, [.ref na, .ref nb, .ref nc, .int 0, .int 0]))) (k3 : Nat) (w3 : Wd[k3]? = some (made, .inr (9, [.ref da, .ref db, .ref dc, .int 0, .int 0]))) (k4 : Nat) (w4 : Wd[k4]? = some (pa, .inr (5, [.ref pa1, .ref pa2, .int 2, .int 2, .int 0, .int 0]))) (k5 : Nat) (w5 : Wd[k5]? = some (tp, .inr (11, [.ref h, .int 0]))) (k6 : Nat) (w6 : Wd[k6]? = some (w, .inr (10, [.int 0, .int 2, .int 4, .int 2, .int 2]))) (sz : Nat) : Met l yX2_start wsX2_start ({ frames := 2, cells := 0, slots := 0, locals := 52 }) (va_Pc [.ref t, .ref bk, .ref tp, .int 0, .ref w] (PG (dC, dI) g Wd sz)) (va_Qi (fun (r : Int32) (_ : Unit) => r = 0) (fun (_ : Unit) t => va_P (dC, dI) vwCl Wd t.heap) (va_A Wd sz)) 0 0 (va_A Wd sz) := by
  refine Met.ofW (cc := cX2_start) (maxL := 8) (ret := (some .int)) (by decide) rfl ?_
  intro p e s m args below meth c s₁ B hml hv
  obtain ⟨rfl, hsz, hP, hK, hD0, hG⟩ := hv
  have hx := B.exec
  have hb := B.bytes
  have hr := B.returns
  have hts := atoms_spec (ws := wsX2_start) B.pre
  have hown : s.vm.findClass RX2 = some m.cls := findClass_of_methodNamed B.named
  have hlocks := B.notSynchronized
  subst hsz
  have hD := hD0.self (sz := s.heap.size)
  generalize hAe : va_A Wd s.heap.size = A at hD hG ⊢
  have hA : ∀ q : Nat, s.heap.size ≤ q → A q := fun q h => by rw [← hAe]; exact Or.inr h
  have hS : va_S A s.heap s.heap [] := va_S.rf
  have hl := lv_entry ([.ref t, .ref bk, .ref tp, .int 0, .ref w]) (n := 8) (Nat.le_of_ble_eq_true rfl)
  rw [lg_entry_eq]
  generalize (lg_sl ([.ref t, .ref bk, .ref tp, .int 0, .ref w]) ++ List.replicate (8 - (lg_sl ([.ref t, .ref bk, .ref tp, .int 0, .ref w])).length) Slot.unset).toArray = ls at hl ⊢
  have hl : lv_has ls 8 [(0, .ref t), (1, .ref bk), (2, .ref tp), (3, .int 0), (4, .ref w)] := hl
  have hf12 := hts (Cond.fieldLink RX2 12 "RunmergeOffice$Job" "maker" "LRunmergeOffice$RunMaker;") (by decide +kernel)
  have hiX2 : ∀ w ∈ u_ws RX2 TX2 15, w ∈ wsX2_start := by decide +kernel
  have hf39 := hts (Cond.fieldLink RX2 39 "RunmergeOffice$Job" "now" "LRunmergeOffice$RunRow;") (by decide +kernel)
  have hiX7 : ∀ w ∈ u_ws RX7 TX7 5, w ∈ wsX2_start := by decide +kernel
  have hf21 := hts (Cond.fieldLink RX2 21 "RunmergeOffice$Job" "pass" "LRunmergeOffice$Pass;") (by decide +kernel)
  have hf43 := hts (Cond.fieldLink RX2 43 "RunmergeOffice$Job" "made" "LRunmergeOffice$RunRow;") (by decide +kernel)
  have hf49 := hts (Cond.fieldLink RX2 49 "RunmergeOffice$Job" "target" "I") (by decide +kernel)
  have hf52 := hts (Cond.fieldLink RX2 52 "RunmergeOffice$Job" "passes" "I") (by decide +kernel)
  have hf55 := hts (Cond.fieldLink RX2 55 "RunmergeOffice$Job" "merges" "I") (by decide +kernel)
  have hiX9 : ∀ w ∈ u_ws RX9 TX9 2, w ∈ wsX2_start := by decide +kernel
  have hf58 := hts (Cond.fieldLink RX2 58 "RunmergeOffice$Job" "moves" "I") (by decide +kernel)
  have hf61 := hts (Cond.fieldLink RX2 61 "RunmergeOffice$Job" "movesOfPass" "I") (by decide +kernel)
  have hf64 := hts (Cond.fieldLink RX2 64 "RunmergeOffice$Job" "lostMoves" "I") (by decide +kernel)
  have hf67 := hts (Cond.fieldLink RX2 67 "RunmergeOffice$Job" "timesTorn" "I") (by decide +kernel)
  refine lv_aload_n hx hb dX2_start_0 rfl (lv_at hl 0 rfl) ?_
  refine va_get (D := (dC, dI)) (ci := 4) (v := .ref mk) (C := RX2) (T := TX2) (N := 15) hx hb hts hiX2 hown hK hP k0 w0 rfl 0 (by decide) hf12 (fun _ h9 => h9) rfl dX2_start_1 ?_
  refine lv_aload_n hx hb dX2_start_4 rfl (lv_at hl 1 rfl) ?_
  refine lv_aload_n hx hb dX2_start_5 rfl (lv_at hl 2 rfl) ?_
  refine lv_aload hx hb dX2_start_6 (lv_at hl 4 rfl) ?_
  refine lv_aload_n hx hb dX2_start_8 rfl (lv_at hl 0 rfl) ?_
  refine va_get (D := (dC, dI)) (ci := 4) (v := .ref now) (C := RX2) (T := TX2) (N := 15) hx hb hts hiX2 hown hK hP k0 w0 rfl 5 (by decide) hf39 (fun _ h9 => h9) rfl dX2_start_9 ?_
  refine va_callv (va_runV (As := [.ref bk, .ref tp, .ref w, .ref now]) (rest := []) ⟨hx, hb, hml, hown, hts⟩ (c_X6_makeRuns_2 l dC dI g Wd mk ma mb bk tp h w now na nb nc 2 k1 w1 k5 w5 k6 w6 k2 w2  s.heap.size) (cwV 4 hts gX2_start_X6_makeRuns rfl rfl rfl (by decide +kernel) ⟨Nat.le_of_ble_eq_true rfl, Nat.le_of_ble_eq_true rfl⟩) ⟨PG_blind, va_recv hK hP (ci := 8) (q0 := k1) rfl w1, PG_call hK hG hS hP hD (A_all hD hA hS.1)⟩ rfl rfl hl.1 rfl (lv_room (Nat.le_of_ble_eq_true rfl)) dX2_start_12 ⟨Nat.le_of_ble_eq_true rfl, Nat.le_of_ble_eq_true rfl⟩) hS (fun q _ h => (A_all hD hA hS.1) q h) (A_all hD hA hS.1) (fun u_1 t_1 H_1 L_1 ht_1 hvm_1 hw_1 hB_1 hz_1 hk_1 hS => ?_)
  replace hB_1 := (show va_P (dC, dI) vwCl Wd t_1.heap from hB_1)
  rw [ht_1] at hB_1
  have hP := hB_1
  refine lv_aload_n hx hb dX2_start_15 rfl (lv_at hl 0 rfl) ?_
  refine va_get (D := (dC, dI)) (ci := 4) (v := .ref now) (C := RX2) (T := TX2) (N := 15) hx hb hts hiX2 hown hK hP k0 w0 rfl 5 (by decide) hf39 (fun _ h9 => h9) rfl dX2_start_16 ?_
  refine va_getN (D := (dC, dI)) (ci := 9) (v := .int 0) (C := RX7) (T := TX7) (N := 5) hx hb hts hiX7 hown hK hP k2 w2 rfl 3 (by decide) (nf_27 hG) (fun _ h9 => h9) rfl dX2_start_19 ?_
  refine lv_istore (lv' := [(5, .int 0), (0, .ref t), (1, .ref bk), (2, .ref tp), (3, .int 0), (4, .ref w)]) hx hb dX2_start_22 hl (by decide) rfl (fun ls hl => ?_)
  refine lv_aload_n hx hb dX2_start_24 rfl (lv_at hl 1 rfl) ?_
  refine va_get (D := (dC, dI)) (ci := 4) (v := .ref pa) (C := RX2) (T := TX2) (N := 15) hx hb hts hiX2 hown hK hP k0 w0 rfl 1 (by decide) hf21 (fun _ h9 => h9) rfl dX2_start_25 ?_
  refine lv_aload hx hb dX2_start_28 (lv_at hl 5 rfl) ?_
  refine lv_iload hx hb dX2_start_30 (lv_at hl 0 rfl) ?_
  refine va_calli (va_runV (As := [.ref w, .int 0]) (rest := []) ⟨hx, hb, hml, hown, hts⟩ (c_X3_arrange_2 l dC dI g Wd pa pa1 pa2 w 2 k4 w4 k6 w6  H_1.size) (cwV 2 hts gX2_start_X3_arrange rfl rfl rfl (by decide +kernel) ⟨Nat.le_of_ble_eq_true rfl, Nat.le_of_ble_eq_true rfl⟩) ⟨PG_blind, va_recv hK hP (ci := 5) (q0 := k4) rfl w4, PG_call hK hG hS hP hD (A_all hD hA hS.1)⟩ rfl rfl hl.1 rfl (lv_room (Nat.le_of_ble_eq_true rfl)) dX2_start_32 ⟨Nat.le_of_ble_eq_true rfl, Nat.le_of_ble_eq_true rfl⟩) hS (fun q _ h => (A_all hD hA hS.1) q h) (A_all hD hA hS.1) (fun r_2 u_2 t_2 H_2 L_2 ht_2 hvm_2 hw_2 hB_2 hz_2 hk_2 hS => ?_)
  replace hB_2 := (show va_P (dC, dI) vwCl Wd t_2.heap from hB_2)
  rw [ht_2] at hB_2
  have hP := hB_2
  obtain rfl : r_2 = 0 := hw_2
  refine lv_istore (lv' := [(6, .int 0), (5, .int 0), (0, .ref t), (1, .ref bk), (2, .ref tp), (3, .int 0), (4, .ref w)]) hx hb dX2_start_35 hl (by decide) rfl (fun ls hl => ?_)
  refine lv_iload hx hb dX2_start_37 (lv_at hl 1 rfl) ?_
  refine lv_istore (lv' := [(7, .int 0), (6, .int 0), (5, .int 0), (0, .ref t), (1, .ref bk), (2, .ref tp), (3, .int 0), (4, .ref w)]) hx hb dX2_start_39 hl (by decide) rfl (fun ls hl => ?_)
  refine lv_iload hx hb dX2_start_41 (lv_at hl 0 rfl) ?_
  refine lv_iload hx hb dX2_start_43 (lv_at hl 1 rfl) ?_
  refine lv_icmp_ge (tgt := 61) hx hb dX2_start_45 (by decide) (fun c_3 => ?_) (fun c_3 => absurd (by decide) c_3)
  refine lv_aload_n hx hb dX2_start_61 rfl (lv_at hl 3 rfl) ?_
  refine va_get (D := (dC, dI)) (ci := 4) (v := .ref made) (C := RX2) (T := TX2) (N := 15) hx hb hts hiX2 hown hK hP k0 w0 rfl 6 (by decide) hf43 (fun _ h9 => h9) rfl dX2_start_62 ?_
  refine va_callv (va_runV (As := []) (rest := []) ⟨hx, hb, hml, hown, hts⟩ (c_X7_empty l dC dI g Wd made da db dc k3 w3  H_2.size) (cwV 0 hts gX2_start_X7_empty rfl rfl rfl (by decide +kernel) ⟨Nat.le_of_ble_eq_true rfl, Nat.le_of_ble_eq_true rfl⟩) ⟨PG_blind, va_recv hK hP (ci := 9) (q0 := k3) rfl w3, PG_call hK hG hS hP hD (A_all hD hA hS.1)⟩ rfl rfl hl.1 rfl (lv_room (Nat.le_of_ble_eq_true rfl)) dX2_start_65 ⟨Nat.le_of_ble_eq_true rfl, Nat.le_of_ble_eq_true rfl⟩) hS (fun q _ h => (A_all hD hA hS.1) q h) (A_all hD hA hS.1) (fun u_4 t_4 H_4 L_4 ht_4 hvm_4 hw_4 hB_4 hz_4 hk_4 hS => ?_)
  replace hB_4 := (show va_P (dC, dI) vwCl Wd t_4.heap from hB_4)
  rw [ht_4] at hB_4
  have hP := hB_4
  refine lv_aload_n hx hb dX2_start_68 rfl (lv_at hl 3 rfl) ?_
  refine lv_iload_n hx hb dX2_start_69 rfl (lv_at hl 6 rfl) ?_
  refine va_putS (D := (dC, dI)) (ci := 4) (v := .int 0) (ty := .int) (C := RX2) (T := TX2) (N := 15) hx hb hts hiX2 tyX2 tyX2_ok nmX2 hown hK hP hD hS k0 w0 rfl 8 (by decide) hf49 (fun _ h9 => h9) rfl (by decide +kernel) rfl rfl (Nat.le_of_ble_eq_true rfl) rfl dX2_start_70 (fun H_5 L_6 hP hS => ?_)
  refine lv_aload_n hx hb dX2_start_73 rfl (lv_at hl 3 rfl) ?_
  refine lv_iconst (v := 0) hx hb dX2_start_74 (by decide) ?_
  refine va_putS (D := (dC, dI)) (ci := 4) (v := .int 0) (ty := .int) (C := RX2) (T := TX2) (N := 15) hx hb hts hiX2 tyX2 tyX2_ok nmX2 hown hK hP hD hS k0 w0 rfl 9 (by decide) hf52 (fun _ h9 => h9) rfl (by decide +kernel) rfl rfl (Nat.le_of_ble_eq_true rfl) rfl dX2_start_75 (fun H_7 L_8 hP hS => ?_)
  refine lv_aload_n hx hb dX2_start_78 rfl (lv_at hl 3 rfl) ?_
  refine lv_iconst (v := 0) hx hb dX2_start_79 (by decide) ?_
  refine va_putS (D := (dC, dI)) (ci := 4) (v := .int 0) (ty := .int) (C := RX2) (T := TX2) (N := 15) hx hb hts hiX2 tyX2 tyX2_ok nmX2 hown hK hP hD hS k0 w0 rfl 10 (by decide) hf55 (fun _ h9 => h9) rfl (by decide +kernel) rfl rfl (Nat.le_of_ble_eq_true rfl) rfl dX2_start_80 (fun H_9 L_10 hP hS => ?_)
  refine lv_aload_n hx hb dX2_start_83 rfl (lv_at hl 3 rfl) ?_
  refine lv_aload_n hx hb dX2_start_84 rfl (lv_at hl 5 rfl) ?_
  refine va_getN (D := (dC, dI)) (ci := 11) (v := .int 0) (C := RX9) (T := TX9) (N := 2) hx hb hts hiX9 hown hK hP k5 w5 rfl 1 (by decide) (nf_1 hG) (fun _ h9 => h9) rfl dX2_start_85 ?_
  refine va_putS (D := (dC, dI)) (ci := 4) (v := .int 0) (ty := .int) (C := RX2) (T := TX2) (N := 15) hx hb hts hiX2 tyX2 tyX2_ok nmX2 hown hK hP hD hS k0 w0 rfl 11 (by decide) hf58 (fun _ h9 => h9) rfl (by decide +kernel) rfl rfl (Nat.le_of_ble_eq_true rfl) rfl dX2_start_88 (fun H_11 L_12 hP hS => ?_)
  refine lv_aload_n hx hb dX2_start_91 rfl (lv_at hl 3 rfl) ?_
  refine lv_iconst (v := 0) hx hb dX2_start_92 (by decide) ?_
  refine va_putS (D := (dC, dI)) (ci := 4) (v := .int 0) (ty := .int) (C := RX2) (T := TX2) (N := 15) hx hb hts hiX2 tyX2 tyX2_ok nmX2 hown hK hP hD hS k0 w0 rfl 12 (by decide) hf61 (fun _ h9 => h9) rfl (by decide +kernel) rfl rfl (Nat.le_of_ble_eq_true rfl) rfl dX2_start_93 (fun H_13 L_14 hP hS => ?_)
  refine lv_aload_n hx hb dX2_start_96 rfl (lv_at hl 3 rfl) ?_
  refine lv_iconst (v := 0) hx hb dX2_start_97 (by decide) ?_
  refine va_putS (D := (dC, dI)) (ci := 4) (v := .int 0) (ty := .int) (C := RX2) (T := TX2) (N := 15) hx hb hts hiX2 tyX2 tyX2_ok nmX2 hown hK hP hD hS k0 w0 rfl 13 (by decide) hf64 (fun _ h9 => h9) rfl (by decide +kernel) rfl rfl (Nat.le_of_ble_eq_true rfl) rfl dX2_start_98 (fun H_15 L_16 hP hS => ?_)
  refine lv_aload_n hx hb dX2_start_101 rfl (lv_at hl 3 rfl) ?_
  refine lv_iconst (v := 0) hx hb dX2_start_102 (by decide) ?_
  refine va_putS (D := (dC, dI)) (ci := 4) (v := .int 0) (ty := .int) (C := RX2) (T := TX2) (N := 15) hx hb hts hiX2 tyX2 tyX2_ok nmX2 hown hK hP hD hS k0 w0 rfl 14 (by decide) hf67 (fun _ h9 => h9) rfl (by decide +kernel) rfl rfl (Nat.le_of_ble_eq_true rfl) rfl dX2_start_103 (fun H_17 L_18 hP hS => ?_)
  refine lv_iload hx hb dX2_start_106 (lv_at hl 2 rfl) ?_
  exact W.iret (v := 0) hx hb hr (fun t ht hW => ⟨⟨0, (), rfl, rfl, P_at ht hP⟩, hS.F ht⟩) hS.2.2 dX2_start_108
set_option maxHeartbeats 4000000 in
set_option maxRecDepth 100000 in
theorem c_X2_doWhole_22 (l : Launch) (dC : Nat → ClassId) (dI : Nat → Nat → Nat) (g : Nat → ClassId) (Wd : va_W) (t : Nat) (mk : Nat) (pa : Nat) (ii : Nat) (pl : Nat) (now : Nat) (made : Nat) (nx : Nat) (ma : Nat) (mb : Nat) (na : Nat) (nb : Nat) (nc : Nat) (da : Nat) (db : Nat) (dc : Nat) (pa1 : Nat) (pa2 : Nat) (bk : Nat) (tp : Nat) (h : Nat) (u : Nat) (hu : Nat) (w : Nat) (k0 : Nat) (w0 : Wd[k0]? = some (t, .inr (4, [.ref mk, .ref pa, .ref ii, .ref pl, .int 0, .ref now, .ref made, .ref nx, .int 0, .int 0, .int 0, .int 0, .int 0, .int 0, .int 0]))) (k1 : Nat) (w1 : Wd[k1]? = some (mk, .inr (8, [.ref ma, .ref mb, .int 0]))) (k2 : Nat) (w2 : Wd[k2]? = some (now, .inr (9, [.ref na, .ref nb, .ref nc, .int 0, .int 0]))) (k3 : Nat) (w3 : Wd[k3]? = some (made, .inr (9, [.ref da, .ref db, .ref dc, .int 0, .int 0]))) (k4 : Nat) (w4 : Wd[k4]? = some (pa, .inr (5, [.ref pa1, .ref pa2, .int 2, .int 2, .int 0, .int 0]))) (k5 : Nat) (w5 : Wd[k5]? = some (tp, .inr (11, [.ref h, .int 0]))) (k6 : Nat) (w6 : Wd[k6]? = some (u, .inr (11, [.ref hu, .int 0]))) (k7 : Nat) (w7 : Wd[k7]? = some (w, .inr (10, [.int 0, .int 2, .int 4, .int 2, .int 2]))) (sz : Nat) : Met l yX2_doWhole wsX2_doWhole ({ frames := 3, cells := 0, slots := 0, locals := 79 }) (va_Pc [.ref t, .ref bk, .ref tp, .ref u, .ref w] (PG (dC, dI) g Wd sz)) (va_Qv (fun (_ : Unit) => True) (fun (_ : Unit) t => va_P (dC, dI) vwCl Wd t.heap) (va_A Wd sz)) 0 0 (va_A Wd sz) := by
  refine Met.ofW (cc := cX2_doWhole) (maxL := 6) (ret := none) (by decide) rfl ?_
  intro p e s m args below meth c s₁ B hml hv
  obtain ⟨rfl, hsz, hP, hK, hD0, hG⟩ := hv
  have hx := B.exec
  have hb := B.bytes
  have hr := B.returns
  have hts := atoms_spec (ws := wsX2_doWhole) B.pre
  have hown : s.vm.findClass RX2 = some m.cls := findClass_of_methodNamed B.named
  have hlocks := B.notSynchronized
  subst hsz
  have hD := hD0.self (sz := s.heap.size)
  generalize hAe : va_A Wd s.heap.size = A at hD hG ⊢
  have hA : ∀ q : Nat, s.heap.size ≤ q → A q := fun q h => by rw [← hAe]; exact Or.inr h
  have hS : va_S A s.heap s.heap [] := va_S.rf
  have hl := lv_entry ([.ref t, .ref bk, .ref tp, .ref u, .ref w]) (n := 6) (Nat.le_of_ble_eq_true rfl)
  rw [lg_entry_eq]
  generalize (lg_sl ([.ref t, .ref bk, .ref tp, .ref u, .ref w]) ++ List.replicate (6 - (lg_sl ([.ref t, .ref bk, .ref tp, .ref u, .ref w])).length) Slot.unset).toArray = ls at hl ⊢
  have hl : lv_has ls 6 [(0, .ref t), (1, .ref bk), (2, .ref tp), (3, .ref u), (4, .ref w)] := hl
  refine lv_aload_n hx hb dX2_doWhole_0 rfl (lv_at hl 0 rfl) ?_
  refine lv_aload_n hx hb dX2_doWhole_1 rfl (lv_at hl 1 rfl) ?_
  refine lv_aload_n hx hb dX2_doWhole_2 rfl (lv_at hl 2 rfl) ?_
  refine lv_iconst (v := 0) hx hb dX2_doWhole_3 (by decide) ?_
  refine lv_aload hx hb dX2_doWhole_4 (lv_at hl 4 rfl) ?_
  refine va_calli (va_runV (As := [.ref bk, .ref tp, .int 0, .ref w]) (rest := []) ⟨hx, hb, hml, hown, hts⟩ (c_X2_start_22 l dC dI g Wd t mk pa ii pl now made nx ma mb na nb nc da db dc pa1 pa2 bk tp h w k0 w0 k1 w1 k2 w2 k3 w3 k4 w4 k5 w5 k7 w7  s.heap.size) (cwV 4 hts gX2_doWhole_X2_start rfl rfl rfl (by decide +kernel) ⟨Nat.le_of_ble_eq_true rfl, Nat.le_of_ble_eq_true rfl⟩) ⟨PG_blind, va_recv hK hP (ci := 4) (q0 := k0) rfl w0, PG_call hK hG hS hP hD (A_all hD hA hS.1)⟩ rfl rfl hl.1 rfl (lv_room (Nat.le_of_ble_eq_true rfl)) dX2_doWhole_6 ⟨Nat.le_of_ble_eq_true rfl, Nat.le_of_ble_eq_true rfl⟩) hS (fun q _ h => (A_all hD hA hS.1) q h) (A_all hD hA hS.1) (fun r_1 u_1 t_1 H_1 L_1 ht_1 hvm_1 hw_1 hB_1 hz_1 hk_1 hS => ?_)
  replace hB_1 := (show va_P (dC, dI) vwCl Wd t_1.heap from hB_1)
  rw [ht_1] at hB_1
  have hP := hB_1
  obtain rfl : r_1 = 0 := hw_1
  refine lv_pop hx hb dX2_doWhole_9 rfl ?_
  refine lv_iconst (v := 0) hx hb dX2_doWhole_10 (by decide) ?_
  refine lv_istore (lv' := [(5, .int 0), (0, .ref t), (1, .ref bk), (2, .ref tp), (3, .ref u), (4, .ref w)]) hx hb dX2_doWhole_11 hl (by decide) rfl (fun ls hl => ?_)
  refine lv_iload hx hb dX2_doWhole_13 (lv_at hl 0 rfl) ?_
  refine lv_sipush (v := 200) hx hb dX2_doWhole_15 (by decide) ?_
  refine lv_icmp_ge (tgt := 38) hx hb dX2_doWhole_18 (by decide) (fun c_2 => absurd c_2 (by decide)) (fun c_2 => ?_)
  refine lv_aload_n hx hb dX2_doWhole_21 rfl (lv_at hl 1 rfl) ?_
  refine va_calli (va_runV (As := []) (rest := []) ⟨hx, hb, hml, hown, hts⟩ (c_X2_isOver l dC dI g Wd t mk pa ii pl now made nx na nb nc 0 k0 w0 k2 w2  H_1.size) (cwV 0 hts gX2_doWhole_X2_isOver rfl rfl rfl (by decide +kernel) ⟨Nat.le_of_ble_eq_true rfl, Nat.le_of_ble_eq_true rfl⟩) ⟨PG_blind, va_recv hK hP (ci := 4) (q0 := k0) rfl w0, PG_call hK hG hS hP hD (A_all hD hA hS.1)⟩ rfl rfl hl.1 rfl (lv_room (Nat.le_of_ble_eq_true rfl)) dX2_doWhole_22 ⟨Nat.le_of_ble_eq_true rfl, Nat.le_of_ble_eq_true rfl⟩) hS (fun q _ h => (A_all hD hA hS.1) q h) (A_all hD hA hS.1) (fun r_3 u_3 t_3 H_3 L_3 ht_3 hvm_3 hw_3 hB_3 hz_3 hk_3 hS => ?_)
  replace hB_3 := (show va_P (dC, dI) vwCl Wd t_3.heap from hB_3)
  rw [ht_3] at hB_3
  have hP := hB_3
  obtain rfl : r_3 = 1 := hw_3
  refine lv_if_ne (tgt := 38) hx hb dX2_doWhole_25 (by decide) (fun c_4 => ?_) (fun c_4 => absurd c_4 (by decide))
  refine lv_aload_n hx hb dX2_doWhole_38 rfl (lv_at hl 1 rfl) ?_
  refine lv_aload_n hx hb dX2_doWhole_39 rfl (lv_at hl 4 rfl) ?_
  refine va_callv (va_runV (As := [.ref u]) (rest := []) ⟨hx, hb, hml, hown, hts⟩ (c_X2_writeTo l dC dI g Wd t mk pa ii pl now made nx na nb nc u hu 0 k0 w0 k2 w2 k6 w6  H_3.size) (cwV 1 hts gX2_doWhole_X2_writeTo rfl rfl rfl (by decide +kernel) ⟨Nat.le_of_ble_eq_true rfl, Nat.le_of_ble_eq_true rfl⟩) ⟨PG_blind, va_recv hK hP (ci := 4) (q0 := k0) rfl w0, PG_call hK hG hS hP hD (A_all hD hA hS.1)⟩ rfl rfl hl.1 rfl (lv_room (Nat.le_of_ble_eq_true rfl)) dX2_doWhole_40 ⟨Nat.le_of_ble_eq_true rfl, Nat.le_of_ble_eq_true rfl⟩) hS (fun q _ h => (A_all hD hA hS.1) q h) (A_all hD hA hS.1) (fun u_5 t_5 H_5 L_5 ht_5 hvm_5 hw_5 hB_5 hz_5 hk_5 hS => ?_)
  replace hB_5 := (show va_P (dC, dI) vwCl Wd t_5.heap from hB_5)
  rw [ht_5] at hB_5
  have hP := hB_5
  exact W.vret hx hb hr (fun t ht hW => ⟨⟨(), rfl, trivial, P_at ht hP⟩, hS.F ht⟩) hS.2.2 dX2_doWhole_43
