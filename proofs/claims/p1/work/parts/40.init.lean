theorem dX9_init_0 : decode cX9_init 0 = .ok (.aload_n 0, 1) := by decide +kernel
theorem dX9_init_1 : decode cX9_init 1 = .ok (.invokespecial 3, 3) := by decide +kernel
theorem dX9_init_4 : decode cX9_init 4 = .ok (.aload_n 0, 1) := by decide +kernel
theorem dX9_init_5 : decode cX9_init 5 = .ok (.bipush 100, 2) := by decide +kernel
theorem dX9_init_7 : decode cX9_init 7 = .ok (.newarray .int, 2) := by decide +kernel
theorem dX9_init_9 : decode cX9_init 9 = .ok (.putfield 9, 3) := by decide +kernel
theorem dX9_init_12 : decode cX9_init 12 = .ok (.aload_n 0, 1) := by decide +kernel
theorem dX9_init_13 : decode cX9_init 13 = .ok (.iconst 0, 1) := by decide +kernel
theorem dX9_init_14 : decode cX9_init 14 = .ok (.putfield 15, 3) := by decide +kernel
theorem dX9_init_17 : decode cX9_init 17 = .ok (.return_, 1) := by decide +kernel
theorem dX0_init_0 : decode cX0_init 0 = .ok (.aload_n 0, 1) := by decide +kernel
theorem dX0_init_1 : decode cX0_init 1 = .ok (.invokespecial 3, 3) := by decide +kernel
theorem dX0_init_4 : decode cX0_init 4 = .ok (.aload_n 0, 1) := by decide +kernel
theorem dX0_init_5 : decode cX0_init 5 = .ok (.sipush 200, 3) := by decide +kernel
theorem dX0_init_8 : decode cX0_init 8 = .ok (.newarray .int, 2) := by decide +kernel
theorem dX0_init_10 : decode cX0_init 10 = .ok (.putfield 9, 3) := by decide +kernel
theorem dX0_init_13 : decode cX0_init 13 = .ok (.aload_n 0, 1) := by decide +kernel
theorem dX0_init_14 : decode cX0_init 14 = .ok (.sipush 200, 3) := by decide +kernel
theorem dX0_init_17 : decode cX0_init 17 = .ok (.newarray .int, 2) := by decide +kernel
theorem dX0_init_19 : decode cX0_init 19 = .ok (.putfield 15, 3) := by decide +kernel
theorem dX0_init_22 : decode cX0_init 22 = .ok (.aload_n 0, 1) := by decide +kernel
theorem dX0_init_23 : decode cX0_init 23 = .ok (.iconst 0, 1) := by decide +kernel
theorem dX0_init_24 : decode cX0_init 24 = .ok (.putfield 18, 3) := by decide +kernel
theorem dX0_init_27 : decode cX0_init 27 = .ok (.return_, 1) := by decide +kernel
theorem dX7_init_0 : decode cX7_init 0 = .ok (.aload_n 0, 1) := by decide +kernel
theorem dX7_init_1 : decode cX7_init 1 = .ok (.invokespecial 3, 3) := by decide +kernel
theorem dX7_init_4 : decode cX7_init 4 = .ok (.aload_n 0, 1) := by decide +kernel
theorem dX7_init_5 : decode cX7_init 5 = .ok (.bipush 100, 2) := by decide +kernel
theorem dX7_init_7 : decode cX7_init 7 = .ok (.newarray .int, 2) := by decide +kernel
theorem dX7_init_9 : decode cX7_init 9 = .ok (.putfield 9, 3) := by decide +kernel
theorem dX7_init_12 : decode cX7_init 12 = .ok (.aload_n 0, 1) := by decide +kernel
theorem dX7_init_13 : decode cX7_init 13 = .ok (.sipush 200, 3) := by decide +kernel
theorem dX7_init_16 : decode cX7_init 16 = .ok (.newarray .int, 2) := by decide +kernel
theorem dX7_init_18 : decode cX7_init 18 = .ok (.putfield 15, 3) := by decide +kernel
theorem dX7_init_21 : decode cX7_init 21 = .ok (.aload_n 0, 1) := by decide +kernel
theorem dX7_init_22 : decode cX7_init 22 = .ok (.sipush 200, 3) := by decide +kernel
theorem dX7_init_25 : decode cX7_init 25 = .ok (.newarray .int, 2) := by decide +kernel
theorem dX7_init_27 : decode cX7_init 27 = .ok (.putfield 18, 3) := by decide +kernel
theorem dX7_init_30 : decode cX7_init 30 = .ok (.aload_n 0, 1) := by decide +kernel
theorem dX7_init_31 : decode cX7_init 31 = .ok (.iconst 0, 1) := by decide +kernel
theorem dX7_init_32 : decode cX7_init 32 = .ok (.putfield 21, 3) := by decide +kernel
theorem dX7_init_35 : decode cX7_init 35 = .ok (.aload_n 0, 1) := by decide +kernel
theorem dX7_init_36 : decode cX7_init 36 = .ok (.iconst 0, 1) := by decide +kernel
theorem dX7_init_37 : decode cX7_init 37 = .ok (.putfield 25, 3) := by decide +kernel
theorem dX7_init_40 : decode cX7_init 40 = .ok (.return_, 1) := by decide +kernel
theorem dX8_init_0 : decode cX8_init 0 = .ok (.aload_n 0, 1) := by decide +kernel
theorem dX8_init_1 : decode cX8_init 1 = .ok (.invokespecial 3, 3) := by decide +kernel
theorem dX8_init_4 : decode cX8_init 4 = .ok (.aload_n 0, 1) := by decide +kernel
theorem dX8_init_5 : decode cX8_init 5 = .ok (.iconst 0, 1) := by decide +kernel
theorem dX8_init_6 : decode cX8_init 6 = .ok (.putfield 9, 3) := by decide +kernel
theorem dX8_init_9 : decode cX8_init 9 = .ok (.aload_n 0, 1) := by decide +kernel
theorem dX8_init_10 : decode cX8_init 10 = .ok (.iconst 1, 1) := by decide +kernel
theorem dX8_init_11 : decode cX8_init 11 = .ok (.putfield 15, 3) := by decide +kernel
theorem dX8_init_14 : decode cX8_init 14 = .ok (.aload_n 0, 1) := by decide +kernel
theorem dX8_init_15 : decode cX8_init 15 = .ok (.iconst 4, 1) := by decide +kernel
theorem dX8_init_16 : decode cX8_init 16 = .ok (.putfield 18, 3) := by decide +kernel
theorem dX8_init_19 : decode cX8_init 19 = .ok (.aload_n 0, 1) := by decide +kernel
theorem dX8_init_20 : decode cX8_init 20 = .ok (.iconst 0, 1) := by decide +kernel
theorem dX8_init_21 : decode cX8_init 21 = .ok (.putfield 21, 3) := by decide +kernel
theorem dX8_init_24 : decode cX8_init 24 = .ok (.aload_n 0, 1) := by decide +kernel
theorem dX8_init_25 : decode cX8_init 25 = .ok (.iconst 2, 1) := by decide +kernel
theorem dX8_init_26 : decode cX8_init 26 = .ok (.putfield 24, 3) := by decide +kernel
theorem dX8_init_29 : decode cX8_init 29 = .ok (.return_, 1) := by decide +kernel
theorem dX6_init_0 : decode cX6_init 0 = .ok (.aload_n 0, 1) := by decide +kernel
theorem dX6_init_1 : decode cX6_init 1 = .ok (.invokespecial 3, 3) := by decide +kernel
theorem dX6_init_4 : decode cX6_init 4 = .ok (.aload_n 0, 1) := by decide +kernel
theorem dX6_init_5 : decode cX6_init 5 = .ok (.bipush 50, 2) := by decide +kernel
theorem dX6_init_7 : decode cX6_init 7 = .ok (.newarray .int, 2) := by decide +kernel
theorem dX6_init_9 : decode cX6_init 9 = .ok (.putfield 9, 3) := by decide +kernel
theorem dX6_init_12 : decode cX6_init 12 = .ok (.aload_n 0, 1) := by decide +kernel
theorem dX6_init_13 : decode cX6_init 13 = .ok (.bipush 50, 2) := by decide +kernel
theorem dX6_init_15 : decode cX6_init 15 = .ok (.newarray .int, 2) := by decide +kernel
theorem dX6_init_17 : decode cX6_init 17 = .ok (.putfield 15, 3) := by decide +kernel
theorem dX6_init_20 : decode cX6_init 20 = .ok (.aload_n 0, 1) := by decide +kernel
theorem dX6_init_21 : decode cX6_init 21 = .ok (.iconst 0, 1) := by decide +kernel
theorem dX6_init_22 : decode cX6_init 22 = .ok (.putfield 18, 3) := by decide +kernel
theorem dX6_init_25 : decode cX6_init 25 = .ok (.return_, 1) := by decide +kernel
theorem dX3_init_0 : decode cX3_init 0 = .ok (.aload_n 0, 1) := by decide +kernel
theorem dX3_init_1 : decode cX3_init 1 = .ok (.invokespecial 3, 3) := by decide +kernel
theorem dX3_init_4 : decode cX3_init 4 = .ok (.aload_n 0, 1) := by decide +kernel
theorem dX3_init_5 : decode cX3_init 5 = .ok (.sipush 200, 3) := by decide +kernel
theorem dX3_init_8 : decode cX3_init 8 = .ok (.newarray .int, 2) := by decide +kernel
theorem dX3_init_10 : decode cX3_init 10 = .ok (.putfield 9, 3) := by decide +kernel
theorem dX3_init_13 : decode cX3_init 13 = .ok (.aload_n 0, 1) := by decide +kernel
theorem dX3_init_14 : decode cX3_init 14 = .ok (.bipush 6, 2) := by decide +kernel
theorem dX3_init_16 : decode cX3_init 16 = .ok (.newarray .int, 2) := by decide +kernel
theorem dX3_init_18 : decode cX3_init 18 = .ok (.putfield 15, 3) := by decide +kernel
theorem dX3_init_21 : decode cX3_init 21 = .ok (.aload_n 0, 1) := by decide +kernel
theorem dX3_init_22 : decode cX3_init 22 = .ok (.iconst 0, 1) := by decide +kernel
theorem dX3_init_23 : decode cX3_init 23 = .ok (.putfield 18, 3) := by decide +kernel
theorem dX3_init_26 : decode cX3_init 26 = .ok (.aload_n 0, 1) := by decide +kernel
theorem dX3_init_27 : decode cX3_init 27 = .ok (.iconst 2, 1) := by decide +kernel
theorem dX3_init_28 : decode cX3_init 28 = .ok (.putfield 22, 3) := by decide +kernel
theorem dX3_init_31 : decode cX3_init 31 = .ok (.aload_n 0, 1) := by decide +kernel
theorem dX3_init_32 : decode cX3_init 32 = .ok (.iconst 0, 1) := by decide +kernel
theorem dX3_init_33 : decode cX3_init 33 = .ok (.putfield 25, 3) := by decide +kernel
theorem dX3_init_36 : decode cX3_init 36 = .ok (.aload_n 0, 1) := by decide +kernel
theorem dX3_init_37 : decode cX3_init 37 = .ok (.iconst 0, 1) := by decide +kernel
theorem dX3_init_38 : decode cX3_init 38 = .ok (.putfield 28, 3) := by decide +kernel
theorem dX3_init_41 : decode cX3_init 41 = .ok (.return_, 1) := by decide +kernel
theorem dX10_init_0 : decode cX10_init 0 = .ok (.aload_n 0, 1) := by decide +kernel
theorem dX10_init_1 : decode cX10_init 1 = .ok (.invokespecial 3, 3) := by decide +kernel
theorem dX10_init_4 : decode cX10_init 4 = .ok (.aload_n 0, 1) := by decide +kernel
theorem dX10_init_5 : decode cX10_init 5 = .ok (.sipush 160, 3) := by decide +kernel
theorem dX10_init_8 : decode cX10_init 8 = .ok (.newarray .int, 2) := by decide +kernel
theorem dX10_init_10 : decode cX10_init 10 = .ok (.putfield 9, 3) := by decide +kernel
theorem dX10_init_13 : decode cX10_init 13 = .ok (.aload_n 0, 1) := by decide +kernel
theorem dX10_init_14 : decode cX10_init 14 = .ok (.iconst 0, 1) := by decide +kernel
theorem dX10_init_15 : decode cX10_init 15 = .ok (.putfield 15, 3) := by decide +kernel
theorem dX10_init_18 : decode cX10_init 18 = .ok (.return_, 1) := by decide +kernel
theorem dX4_init_0 : decode cX4_init 0 = .ok (.aload_n 0, 1) := by decide +kernel
theorem dX4_init_1 : decode cX4_init 1 = .ok (.invokespecial 3, 3) := by decide +kernel
theorem dX4_init_4 : decode cX4_init 4 = .ok (.aload_n 0, 1) := by decide +kernel
theorem dX4_init_5 : decode cX4_init 5 = .ok (.new 9, 3) := by decide +kernel
theorem dX4_init_8 : decode cX4_init 8 = .ok (.dup, 1) := by decide +kernel
set_option maxRecDepth 20000 in
theorem ggX4_init_X3_init : GoodIn wsX4_init wsX3_init := goodIn_r _ [17, 18, 2, 3, 8, 19, 20, 21, 22, 23, 24, 25, 26, 27, 28, 29, 30] (by decide +kernel) (by decide +kernel)
set_option maxRecDepth 20000 in
theorem gX4_init_X3_init_n11 : GoodIn wsX4_init (wsX3_init) := ggX4_init_X3_init
theorem dX4_init_9 : decode cX4_init 9 = .ok (.invokespecial 11, 3) := by decide +kernel
theorem dX4_init_12 : decode cX4_init 12 = .ok (.putfield 12, 3) := by decide +kernel
theorem dX4_init_15 : decode cX4_init 15 = .ok (.aload_n 0, 1) := by decide +kernel
theorem dX4_init_16 : decode cX4_init 16 = .ok (.sipush 200, 3) := by decide +kernel
theorem dX4_init_19 : decode cX4_init 19 = .ok (.newarray .int, 2) := by decide +kernel
theorem dX4_init_21 : decode cX4_init 21 = .ok (.putfield 18, 3) := by decide +kernel
theorem dX4_init_24 : decode cX4_init 24 = .ok (.aload_n 0, 1) := by decide +kernel
theorem dX4_init_25 : decode cX4_init 25 = .ok (.sipush 200, 3) := by decide +kernel
theorem dX4_init_28 : decode cX4_init 28 = .ok (.newarray .int, 2) := by decide +kernel
theorem dX4_init_30 : decode cX4_init 30 = .ok (.putfield 22, 3) := by decide +kernel
theorem dX4_init_33 : decode cX4_init 33 = .ok (.aload_n 0, 1) := by decide +kernel
theorem dX4_init_34 : decode cX4_init 34 = .ok (.iconst 0, 1) := by decide +kernel
theorem dX4_init_35 : decode cX4_init 35 = .ok (.putfield 25, 3) := by decide +kernel
theorem dX4_init_38 : decode cX4_init 38 = .ok (.aload_n 0, 1) := by decide +kernel
theorem dX4_init_39 : decode cX4_init 39 = .ok (.iconst 0, 1) := by decide +kernel
theorem dX4_init_40 : decode cX4_init 40 = .ok (.putfield 29, 3) := by decide +kernel
theorem dX4_init_43 : decode cX4_init 43 = .ok (.aload_n 0, 1) := by decide +kernel
theorem dX4_init_44 : decode cX4_init 44 = .ok (.iconst 0, 1) := by decide +kernel
theorem dX4_init_45 : decode cX4_init 45 = .ok (.putfield 32, 3) := by decide +kernel
theorem dX4_init_48 : decode cX4_init 48 = .ok (.aload_n 0, 1) := by decide +kernel
theorem dX4_init_49 : decode cX4_init 49 = .ok (.iconst 0, 1) := by decide +kernel
theorem dX4_init_50 : decode cX4_init 50 = .ok (.putfield 35, 3) := by decide +kernel
theorem dX4_init_53 : decode cX4_init 53 = .ok (.aload_n 0, 1) := by decide +kernel
theorem dX4_init_54 : decode cX4_init 54 = .ok (.iconst 0, 1) := by decide +kernel
theorem dX4_init_55 : decode cX4_init 55 = .ok (.putfield 38, 3) := by decide +kernel
theorem dX4_init_58 : decode cX4_init 58 = .ok (.return_, 1) := by decide +kernel
theorem dX2_init_0 : decode cX2_init 0 = .ok (.aload_n 0, 1) := by decide +kernel
theorem dX2_init_1 : decode cX2_init 1 = .ok (.invokespecial 3, 3) := by decide +kernel
theorem dX2_init_4 : decode cX2_init 4 = .ok (.aload_n 0, 1) := by decide +kernel
theorem dX2_init_5 : decode cX2_init 5 = .ok (.new 9, 3) := by decide +kernel
theorem dX2_init_8 : decode cX2_init 8 = .ok (.dup, 1) := by decide +kernel
set_option maxRecDepth 20000 in
theorem ggX2_init_X6_init : GoodIn wsX2_init wsX6_init := goodIn_r _ [30, 31, 2, 3, 12, 32, 33, 34, 52, 53, 54] (by decide +kernel) (by decide +kernel)
set_option maxRecDepth 20000 in
theorem gX2_init_X6_init_n11 : GoodIn wsX2_init (wsX6_init) := ggX2_init_X6_init
theorem dX2_init_9 : decode cX2_init 9 = .ok (.invokespecial 11, 3) := by decide +kernel
theorem dX2_init_12 : decode cX2_init 12 = .ok (.putfield 12, 3) := by decide +kernel
theorem dX2_init_15 : decode cX2_init 15 = .ok (.aload_n 0, 1) := by decide +kernel
theorem dX2_init_16 : decode cX2_init 16 = .ok (.new 18, 3) := by decide +kernel
theorem dX2_init_19 : decode cX2_init 19 = .ok (.dup, 1) := by decide +kernel
set_option maxRecDepth 20000 in
theorem ggX2_init_X3_init : GoodIn wsX2_init wsX3_init := goodIn_r _ [36, 37, 2, 3, 12, 38, 39, 40, 41, 42, 43, 70, 71, 72, 73, 74, 75] (by decide +kernel) (by decide +kernel)
set_option maxRecDepth 20000 in
theorem gX2_init_X3_init_n20 : GoodIn wsX2_init (wsX3_init) := ggX2_init_X3_init
theorem dX2_init_20 : decode cX2_init 20 = .ok (.invokespecial 20, 3) := by decide +kernel
theorem dX2_init_23 : decode cX2_init 23 = .ok (.putfield 21, 3) := by decide +kernel
theorem dX2_init_26 : decode cX2_init 26 = .ok (.aload_n 0, 1) := by decide +kernel
theorem dX2_init_27 : decode cX2_init 27 = .ok (.bipush 6, 2) := by decide +kernel
theorem dX2_init_29 : decode cX2_init 29 = .ok (.newarray .int, 2) := by decide +kernel
theorem dX2_init_31 : decode cX2_init 31 = .ok (.putfield 25, 3) := by decide +kernel
theorem dX2_init_34 : decode cX2_init 34 = .ok (.aload_n 0, 1) := by decide +kernel
theorem dX2_init_35 : decode cX2_init 35 = .ok (.bipush 6, 2) := by decide +kernel
theorem dX2_init_37 : decode cX2_init 37 = .ok (.newarray .int, 2) := by decide +kernel
theorem dX2_init_39 : decode cX2_init 39 = .ok (.putfield 29, 3) := by decide +kernel
theorem dX2_init_42 : decode cX2_init 42 = .ok (.aload_n 0, 1) := by decide +kernel
theorem dX2_init_43 : decode cX2_init 43 = .ok (.iconst 0, 1) := by decide +kernel
theorem dX2_init_44 : decode cX2_init 44 = .ok (.putfield 32, 3) := by decide +kernel
theorem dX2_init_47 : decode cX2_init 47 = .ok (.aload_n 0, 1) := by decide +kernel
theorem dX2_init_48 : decode cX2_init 48 = .ok (.new 36, 3) := by decide +kernel
theorem dX2_init_51 : decode cX2_init 51 = .ok (.dup, 1) := by decide +kernel
set_option maxRecDepth 20000 in
theorem ggX2_init_X7_init : GoodIn wsX2_init wsX7_init := goodIn_r _ [45, 46, 2, 3, 12, 47, 48, 49, 50, 51, 76, 77, 78, 79, 80] (by decide +kernel) (by decide +kernel)
set_option maxRecDepth 20000 in
theorem gX2_init_X7_init_n38 : GoodIn wsX2_init (wsX7_init) := ggX2_init_X7_init
theorem dX2_init_52 : decode cX2_init 52 = .ok (.invokespecial 38, 3) := by decide +kernel
theorem dX2_init_55 : decode cX2_init 55 = .ok (.putfield 39, 3) := by decide +kernel
theorem dX2_init_58 : decode cX2_init 58 = .ok (.aload_n 0, 1) := by decide +kernel
theorem dX2_init_59 : decode cX2_init 59 = .ok (.new 36, 3) := by decide +kernel
theorem dX2_init_62 : decode cX2_init 62 = .ok (.dup, 1) := by decide +kernel
theorem dX2_init_63 : decode cX2_init 63 = .ok (.invokespecial 38, 3) := by decide +kernel
theorem dX2_init_66 : decode cX2_init 66 = .ok (.putfield 43, 3) := by decide +kernel
theorem dX2_init_69 : decode cX2_init 69 = .ok (.aload_n 0, 1) := by decide +kernel
theorem dX2_init_70 : decode cX2_init 70 = .ok (.new 36, 3) := by decide +kernel
theorem dX2_init_73 : decode cX2_init 73 = .ok (.dup, 1) := by decide +kernel
theorem dX2_init_74 : decode cX2_init 74 = .ok (.invokespecial 38, 3) := by decide +kernel
theorem dX2_init_77 : decode cX2_init 77 = .ok (.putfield 46, 3) := by decide +kernel
theorem dX2_init_80 : decode cX2_init 80 = .ok (.aload_n 0, 1) := by decide +kernel
theorem dX2_init_81 : decode cX2_init 81 = .ok (.iconst 0, 1) := by decide +kernel
theorem dX2_init_82 : decode cX2_init 82 = .ok (.putfield 49, 3) := by decide +kernel
theorem dX2_init_85 : decode cX2_init 85 = .ok (.aload_n 0, 1) := by decide +kernel
theorem dX2_init_86 : decode cX2_init 86 = .ok (.iconst 0, 1) := by decide +kernel
theorem dX2_init_87 : decode cX2_init 87 = .ok (.putfield 52, 3) := by decide +kernel
theorem dX2_init_90 : decode cX2_init 90 = .ok (.aload_n 0, 1) := by decide +kernel
theorem dX2_init_91 : decode cX2_init 91 = .ok (.iconst 0, 1) := by decide +kernel
theorem dX2_init_92 : decode cX2_init 92 = .ok (.putfield 55, 3) := by decide +kernel
theorem dX2_init_95 : decode cX2_init 95 = .ok (.aload_n 0, 1) := by decide +kernel
theorem dX2_init_96 : decode cX2_init 96 = .ok (.iconst 0, 1) := by decide +kernel
theorem dX2_init_97 : decode cX2_init 97 = .ok (.putfield 58, 3) := by decide +kernel
theorem dX2_init_100 : decode cX2_init 100 = .ok (.aload_n 0, 1) := by decide +kernel
theorem dX2_init_101 : decode cX2_init 101 = .ok (.iconst 0, 1) := by decide +kernel
theorem dX2_init_102 : decode cX2_init 102 = .ok (.putfield 61, 3) := by decide +kernel
theorem dX2_init_105 : decode cX2_init 105 = .ok (.aload_n 0, 1) := by decide +kernel
theorem dX2_init_106 : decode cX2_init 106 = .ok (.iconst 0, 1) := by decide +kernel
theorem dX2_init_107 : decode cX2_init 107 = .ok (.putfield 64, 3) := by decide +kernel
theorem dX2_init_110 : decode cX2_init 110 = .ok (.aload_n 0, 1) := by decide +kernel
theorem dX2_init_111 : decode cX2_init 111 = .ok (.iconst 0, 1) := by decide +kernel
theorem dX2_init_112 : decode cX2_init 112 = .ok (.putfield 67, 3) := by decide +kernel
theorem dX2_init_115 : decode cX2_init 115 = .ok (.return_, 1) := by decide +kernel
theorem dX5_init_0 : decode cX5_init 0 = .ok (.aload_n 0, 1) := by decide +kernel
theorem dX5_init_1 : decode cX5_init 1 = .ok (.invokespecial 3, 3) := by decide +kernel
theorem dX5_init_4 : decode cX5_init 4 = .ok (.aload_n 0, 1) := by decide +kernel
theorem dX5_init_5 : decode cX5_init 5 = .ok (.new 9, 3) := by decide +kernel
theorem dX5_init_8 : decode cX5_init 8 = .ok (.dup, 1) := by decide +kernel
set_option maxRecDepth 20000 in
theorem ggX5_init_X10_init : GoodIn wsX5_init wsX10_init := goodIn_r _ [25, 26, 2, 3, 8, 27, 28, 37, 38] (by decide +kernel) (by decide +kernel)
set_option maxRecDepth 20000 in
theorem gX5_init_X10_init_n11 : GoodIn wsX5_init (wsX10_init) := ggX5_init_X10_init
theorem dX5_init_9 : decode cX5_init 9 = .ok (.invokespecial 11, 3) := by decide +kernel
theorem dX5_init_12 : decode cX5_init 12 = .ok (.putfield 12, 3) := by decide +kernel
theorem dX5_init_15 : decode cX5_init 15 = .ok (.aload_n 0, 1) := by decide +kernel
theorem dX5_init_16 : decode cX5_init 16 = .ok (.iconst 3, 1) := by decide +kernel
theorem dX5_init_17 : decode cX5_init 17 = .ok (.newarray .int, 2) := by decide +kernel
theorem dX5_init_19 : decode cX5_init 19 = .ok (.putfield 18, 3) := by decide +kernel
theorem dX5_init_22 : decode cX5_init 22 = .ok (.aload_n 0, 1) := by decide +kernel
theorem dX5_init_23 : decode cX5_init 23 = .ok (.new 22, 3) := by decide +kernel
theorem dX5_init_26 : decode cX5_init 26 = .ok (.dup, 1) := by decide +kernel
set_option maxRecDepth 20000 in
theorem ggX5_init_X8_init : GoodIn wsX5_init wsX8_init := goodIn_r _ [30, 31, 2, 3, 32, 33, 34, 35, 36, 52, 53, 54, 55, 56] (by decide +kernel) (by decide +kernel)
set_option maxRecDepth 20000 in
theorem gX5_init_X8_init_n24 : GoodIn wsX5_init (wsX8_init) := ggX5_init_X8_init
theorem dX5_init_27 : decode cX5_init 27 = .ok (.invokespecial 24, 3) := by decide +kernel
theorem dX5_init_30 : decode cX5_init 30 = .ok (.putfield 25, 3) := by decide +kernel
theorem dX5_init_33 : decode cX5_init 33 = .ok (.aload_n 0, 1) := by decide +kernel
theorem dX5_init_34 : decode cX5_init 34 = .ok (.iconst 0, 1) := by decide +kernel
theorem dX5_init_35 : decode cX5_init 35 = .ok (.putfield 29, 3) := by decide +kernel
theorem dX5_init_38 : decode cX5_init 38 = .ok (.aload_n 0, 1) := by decide +kernel
theorem dX5_init_39 : decode cX5_init 39 = .ok (.iconst 0, 1) := by decide +kernel
theorem dX5_init_40 : decode cX5_init 40 = .ok (.putfield 33, 3) := by decide +kernel
theorem dX5_init_43 : decode cX5_init 43 = .ok (.aload_n 0, 1) := by decide +kernel
theorem dX5_init_44 : decode cX5_init 44 = .ok (.iconst 0, 1) := by decide +kernel
theorem dX5_init_45 : decode cX5_init 45 = .ok (.putfield 36, 3) := by decide +kernel
theorem dX5_init_48 : decode cX5_init 48 = .ok (.aload_n 0, 1) := by decide +kernel
theorem dX5_init_49 : decode cX5_init 49 = .ok (.iconst 0, 1) := by decide +kernel
theorem dX5_init_50 : decode cX5_init 50 = .ok (.putfield 39, 3) := by decide +kernel
theorem dX5_init_53 : decode cX5_init 53 = .ok (.aload_n 0, 1) := by decide +kernel
theorem dX5_init_54 : decode cX5_init 54 = .ok (.iconst 0, 1) := by decide +kernel
theorem dX5_init_55 : decode cX5_init 55 = .ok (.putfield 42, 3) := by decide +kernel
theorem dX5_init_58 : decode cX5_init 58 = .ok (.aload_n 0, 1) := by decide +kernel
theorem dX5_init_59 : decode cX5_init 59 = .ok (.iconst 0, 1) := by decide +kernel
theorem dX5_init_60 : decode cX5_init 60 = .ok (.putfield 45, 3) := by decide +kernel
theorem dX5_init_63 : decode cX5_init 63 = .ok (.aload_n 0, 1) := by decide +kernel
theorem dX5_init_64 : decode cX5_init 64 = .ok (.iconst 0, 1) := by decide +kernel
theorem dX5_init_65 : decode cX5_init 65 = .ok (.putfield 48, 3) := by decide +kernel
theorem dX5_init_68 : decode cX5_init 68 = .ok (.aload_n 0, 1) := by decide +kernel
theorem dX5_init_69 : decode cX5_init 69 = .ok (.iconst 0, 1) := by decide +kernel
theorem dX5_init_70 : decode cX5_init 70 = .ok (.putfield 51, 3) := by decide +kernel
theorem dX5_init_73 : decode cX5_init 73 = .ok (.aload_n 0, 1) := by decide +kernel
theorem dX5_init_74 : decode cX5_init 74 = .ok (.iconst 0, 1) := by decide +kernel
theorem dX5_init_75 : decode cX5_init 75 = .ok (.putfield 55, 3) := by decide +kernel
theorem dX5_init_78 : decode cX5_init 78 = .ok (.aload_n 0, 1) := by decide +kernel
theorem dX5_init_79 : decode cX5_init 79 = .ok (.iconst (-1), 1) := by decide +kernel
theorem dX5_init_80 : decode cX5_init 80 = .ok (.putfield 58, 3) := by decide +kernel
theorem dX5_init_83 : decode cX5_init 83 = .ok (.return_, 1) := by decide +kernel
theorem dX1_init_0 : decode cX1_init 0 = .ok (.aload_n 0, 1) := by decide +kernel
theorem dX1_init_1 : decode cX1_init 1 = .ok (.invokespecial 3, 3) := by decide +kernel
theorem dX1_init_4 : decode cX1_init 4 = .ok (.aload_n 0, 1) := by decide +kernel
theorem dX1_init_5 : decode cX1_init 5 = .ok (.new 9, 3) := by decide +kernel
theorem dX1_init_8 : decode cX1_init 8 = .ok (.dup, 1) := by decide +kernel
set_option maxRecDepth 20000 in
theorem ggX1_init_X6_init : GoodIn wsX1_init wsX6_init := goodIn_r _ [32, 33, 2, 3, 28, 34, 35, 36, 102, 103, 104] (by decide +kernel) (by decide +kernel)
set_option maxRecDepth 20000 in
theorem gX1_init_X6_init_n11 : GoodIn wsX1_init (wsX6_init) := ggX1_init_X6_init
theorem dX1_init_9 : decode cX1_init 9 = .ok (.invokespecial 11, 3) := by decide +kernel
theorem dX1_init_12 : decode cX1_init 12 = .ok (.putfield 12, 3) := by decide +kernel
theorem dX1_init_15 : decode cX1_init 15 = .ok (.aload_n 0, 1) := by decide +kernel
theorem dX1_init_16 : decode cX1_init 16 = .ok (.new 18, 3) := by decide +kernel
theorem dX1_init_19 : decode cX1_init 19 = .ok (.dup, 1) := by decide +kernel
set_option maxRecDepth 20000 in
theorem ggX1_init_X2_init : GoodIn wsX1_init wsX2_init := goodIn_r _ [38, 39, 2, 3, 40, 5, 6, 41, 42, 43, 44, 45, 28, 46, 47, 48, 49, 21, 22, 50, 51, 52, 53, 54, 55, 56, 57, 58, 59, 31, 32, 33, 34, 35, 36, 60, 61, 62, 63, 64, 65, 66, 67, 68, 69, 70, 71, 72, 73, 74, 75, 76, 102, 103, 104, 113, 114, 115, 116, 117, 118, 119, 120, 121, 122, 123, 124, 125, 126, 127, 148, 149, 150, 151, 152, 153, 141, 142, 143, 144, 145] (by decide +kernel) (by decide +kernel)
set_option maxRecDepth 20000 in
theorem gX1_init_X2_init_n20 : GoodIn wsX1_init (wsX2_init) := ggX1_init_X2_init
theorem dX1_init_20 : decode cX1_init 20 = .ok (.invokespecial 20, 3) := by decide +kernel
theorem dX1_init_23 : decode cX1_init 23 = .ok (.putfield 21, 3) := by decide +kernel
theorem dX1_init_26 : decode cX1_init 26 = .ok (.aload_n 0, 1) := by decide +kernel
theorem dX1_init_27 : decode cX1_init 27 = .ok (.new 25, 3) := by decide +kernel
theorem dX1_init_30 : decode cX1_init 30 = .ok (.dup, 1) := by decide +kernel
set_option maxRecDepth 20000 in
theorem ggX1_init_X4_init : GoodIn wsX1_init wsX4_init := goodIn_r _ [78, 79, 2, 3, 80, 43, 44, 81, 28, 82, 83, 84, 85, 86, 87, 88, 60, 61, 62, 63, 64, 65, 66, 67, 68, 148, 149, 150, 151, 152, 153, 128, 129, 130, 131, 132, 133, 134, 135] (by decide +kernel) (by decide +kernel)
set_option maxRecDepth 20000 in
theorem gX1_init_X4_init_n27 : GoodIn wsX1_init (wsX4_init) := ggX1_init_X4_init
theorem dX1_init_31 : decode cX1_init 31 = .ok (.invokespecial 27, 3) := by decide +kernel
theorem dX1_init_34 : decode cX1_init 34 = .ok (.putfield 28, 3) := by decide +kernel
theorem dX1_init_37 : decode cX1_init 37 = .ok (.aload_n 0, 1) := by decide +kernel
theorem dX1_init_38 : decode cX1_init 38 = .ok (.new 32, 3) := by decide +kernel
theorem dX1_init_41 : decode cX1_init 41 = .ok (.dup, 1) := by decide +kernel
set_option maxRecDepth 20000 in
theorem ggX1_init_X8_init : GoodIn wsX1_init wsX8_init := goodIn_r _ [90, 91, 2, 3, 92, 93, 94, 95, 96, 136, 137, 138, 139, 140] (by decide +kernel) (by decide +kernel)
set_option maxRecDepth 20000 in
theorem gX1_init_X8_init_n34 : GoodIn wsX1_init (wsX8_init) := ggX1_init_X8_init
theorem dX1_init_42 : decode cX1_init 42 = .ok (.invokespecial 34, 3) := by decide +kernel
theorem dX1_init_45 : decode cX1_init 45 = .ok (.putfield 35, 3) := by decide +kernel
theorem dX1_init_48 : decode cX1_init 48 = .ok (.aload_n 0, 1) := by decide +kernel
theorem dX1_init_49 : decode cX1_init 49 = .ok (.new 39, 3) := by decide +kernel
theorem dX1_init_52 : decode cX1_init 52 = .ok (.dup, 1) := by decide +kernel
set_option maxRecDepth 20000 in
theorem ggX1_init_X7_init : GoodIn wsX1_init wsX7_init := goodIn_r _ [70, 71, 2, 3, 28, 72, 73, 74, 75, 76, 141, 142, 143, 144, 145] (by decide +kernel) (by decide +kernel)
set_option maxRecDepth 20000 in
theorem gX1_init_X7_init_n41 : GoodIn wsX1_init (wsX7_init) := ggX1_init_X7_init
theorem dX1_init_53 : decode cX1_init 53 = .ok (.invokespecial 41, 3) := by decide +kernel
theorem dX1_init_56 : decode cX1_init 56 = .ok (.putfield 42, 3) := by decide +kernel
theorem dX1_init_59 : decode cX1_init 59 = .ok (.aload_n 0, 1) := by decide +kernel
theorem dX1_init_60 : decode cX1_init 60 = .ok (.new 46, 3) := by decide +kernel
theorem dX1_init_63 : decode cX1_init 63 = .ok (.dup, 1) := by decide +kernel
set_option maxRecDepth 20000 in
theorem ggX1_init_X9_init : GoodIn wsX1_init wsX9_init := goodIn_r _ [98, 99, 2, 3, 28, 100, 101, 146, 147] (by decide +kernel) (by decide +kernel)
set_option maxRecDepth 20000 in
theorem gX1_init_X9_init_n48 : GoodIn wsX1_init (wsX9_init) := ggX1_init_X9_init
theorem dX1_init_64 : decode cX1_init 64 = .ok (.invokespecial 48, 3) := by decide +kernel
theorem dX1_init_67 : decode cX1_init 67 = .ok (.putfield 49, 3) := by decide +kernel
theorem dX1_init_70 : decode cX1_init 70 = .ok (.aload_n 0, 1) := by decide +kernel
theorem dX1_init_71 : decode cX1_init 71 = .ok (.sipush 200, 3) := by decide +kernel
theorem dX1_init_74 : decode cX1_init 74 = .ok (.newarray .int, 2) := by decide +kernel
theorem dX1_init_76 : decode cX1_init 76 = .ok (.putfield 53, 3) := by decide +kernel
theorem dX1_init_79 : decode cX1_init 79 = .ok (.aload_n 0, 1) := by decide +kernel
theorem dX1_init_80 : decode cX1_init 80 = .ok (.iconst 0, 1) := by decide +kernel
theorem dX1_init_81 : decode cX1_init 81 = .ok (.putfield 57, 3) := by decide +kernel
theorem dX1_init_84 : decode cX1_init 84 = .ok (.return_, 1) := by decide +kernel
set_option maxHeartbeats 4000000 in
set_option maxRecDepth 100000 in
theorem c_X9_init (l : Launch) (dC : Nat → ClassId) (dI : Nat → Nat → Nat) (g : Nat → ClassId) (t : Nat) (sz : Nat) : Met l yX9_init wsX9_init ({ frames := 1, cells := 1, slots := 100, locals := 12 }) (va_Pc [.ref t] (PG (dC, dI) g [(t, .inr (11, [.null, .int 0]))] sz)) (va_Qv (fun (_ : Nat → Nat) => True) (fun (u : Nat → Nat) t9 => va_P (dC, dI) vwCl [(t, .inr (11, [.ref (u 0), .int 0])), ((u 0), .inl (g 0, 100, .inl (fun _ => 0)))] t9.heap ∧ va_D (va_A [(t, .inr (11, [.null, .int 0]))] sz) [(t, .inr (11, [.ref (u 0), .int 0])), ((u 0), .inl (g 0, 100, .inl (fun _ => 0)))]) (va_A [(t, .inr (11, [.null, .int 0]))] sz)) 1 100 (va_A [(t, .inr (11, [.null, .int 0]))] sz) := by
  refine Met.ofW (cc := cX9_init) (maxL := 1) (ret := none) (by decide) rfl ?_
  intro p e s m args below meth c s₁ B hml hv
  obtain ⟨rfl, hsz, hP, hK, hD0, hG⟩ := hv
  have hx := B.exec
  have hb := B.bytes
  have hr := B.returns
  have hts := atoms_spec (ws := wsX9_init) B.pre
  have hown : s.vm.findClass RX9 = some m.cls := findClass_of_methodNamed B.named
  have hlocks := B.notSynchronized
  have hin : meth.name = "<init>" := (name_of_methodNamed B.named B.method).1
  subst hsz
  have hD := hD0.self (sz := s.heap.size)
  generalize hAe : va_A [(t, .inr (11, [.null, .int 0]))] s.heap.size = A at hD hG ⊢
  have hA : ∀ q : Nat, s.heap.size ≤ q → A q := fun q h => by rw [← hAe]; exact Or.inr h
  have hS : va_S A s.heap s.heap [] := va_S.rf
  have hl := lv_entry ([.ref t]) (n := 1) (Nat.le_of_ble_eq_true rfl)
  rw [lg_entry_eq]
  generalize (lg_sl ([.ref t]) ++ List.replicate (1 - (lg_sl ([.ref t])).length) Slot.unset).toArray = ls at hl ⊢
  have hl : lv_has ls 1 [(0, .ref t)] := hl
  have hml3 := hts (Cond.methodLink RX9 3 objectInit) (by decide +kernel)
  have hoi := hts (Cond.instanceMethod objectInit) (by decide +kernel)
  have hoc := hts (Cond.code objectInit ⟨#[0xb1]⟩ 1 none) (by decide +kernel)
  have hnaint := hts (Cond.arrayClass (newarray.typeOf .int)) (by decide +kernel)
  have hf9 := hts (Cond.fieldLink RX9 9 "RunmergeOffice$Tape" "held" "[I") (by decide +kernel)
  have hiX9 : ∀ w ∈ u_ws RX9 TX9 2, w ∈ wsX9_init := by decide +kernel
  have hf15 := hts (Cond.fieldLink RX9 15 "RunmergeOffice$Tape" "size" "I") (by decide +kernel)
  refine lv_aload_n hx hb dX9_init_0 rfl (lv_at hl 0 rfl) ?_
  refine W.objInit hx hb hown hml3 hoi hoc rfl (by rw [hml]; exact hl.1) rfl dX9_init_1 (Nat.le_of_ble_eq_true rfl) (Nat.le_of_ble_eq_true rfl) ?_
  refine W.eq (g2 := F0 m 4 ls []) rfl ?_
  refine lv_aload_n hx hb dX9_init_4 rfl (lv_at hl 0 rfl) ?_
  refine lv_bipush (v := 100) hx hb dX9_init_5 (by decide) ?_
  refine va_newa (atype := .int) (a0 := (100, .inl (fun _ => 0))) hx hb hnaint rfl hK hP hD hS hA (fun _ => rfl) (by decide) (N' := 100) (by decide) (Nat.le_of_ble_eq_true rfl) (Nat.le_of_ble_eq_true rfl) (Nat.le_of_ble_eq_true rfl) dX9_init_7 (fun q_1 cA_3 H_2 hK9 hP hD hS => ?_)
  obtain rfl : g 0 = cA_3 := K_one hK9 0 6 rfl rfl
  have hP : va_P (dC, dI) vwCl [(t, .inr (11, [.null, .int 0])), (q_1, .inl (g 0, 100, .inl (fun _ => 0)))] H_2 := hP
  have hD : va_D A [(t, .inr (11, [.null, .int 0])), (q_1, .inl (g 0, 100, .inl (fun _ => 0)))] := hD
  refine W.widen (k := 1) (n := 100) (by omega) (by omega) ?_
  refine va_putF (D := (dC, dI)) (ci := 11) (v := .ref q_1) (ty := .array .int) (C := RX9) (T := TX9) (N := 2) hx hb hts hiX9 tyX9 tyX9_ok nmX9 hown hK hP hD hS 0 rfl rfl 0 (by decide) hf9 (fun _ h9 => h9) rfl hin rfl (by decide +kernel) rfl rfl (Nat.le_of_ble_eq_true rfl) dX9_init_9 (fun H_4 L_5 hP hD hS => ?_)
  have hP : va_P (dC, dI) vwCl [(t, .inr (11, [.ref q_1, .int 0])), (q_1, .inl (g 0, 100, .inl (fun _ => 0)))] H_4 := hP
  have hD : va_D A [(t, .inr (11, [.ref q_1, .int 0])), (q_1, .inl (g 0, 100, .inl (fun _ => 0)))] := hD
  refine lv_aload_n hx hb dX9_init_12 rfl (lv_at hl 0 rfl) ?_
  refine lv_iconst (v := 0) hx hb dX9_init_13 (by decide) ?_
  refine va_putS (D := (dC, dI)) (ci := 11) (v := .int 0) (ty := .int) (C := RX9) (T := TX9) (N := 2) hx hb hts hiX9 tyX9 tyX9_ok nmX9 hown hK hP hD hS 0 rfl rfl 1 (by decide) hf15 (fun _ h9 => h9) rfl (by decide +kernel) rfl rfl (Nat.le_of_ble_eq_true rfl) rfl dX9_init_14 (fun H_6 L_7 hP hS => ?_)
  have hP9 := hP.sub (ws' := [(t, .inr (11, [.ref q_1, .int 0])), (q_1, .inl (g 0, 100, .inl (fun _ => 0)))]) [0, 1] rfl
  have hD9 := hD.sub (ws' := [(t, .inr (11, [.ref q_1, .int 0])), (q_1, .inl (g 0, 100, .inl (fun _ => 0)))]) [0, 1] (by decide) rfl
  exact W.vret hx hb hr (fun t ht hW => ⟨⟨(fun j => ([q_1] : List Nat).getD j 0), rfl, trivial, ⟨P_at ht hP9, hD9⟩⟩, hS.F ht⟩) hS.2.2 dX9_init_17
set_option maxHeartbeats 4000000 in
set_option maxRecDepth 100000 in
theorem c_X0_init (l : Launch) (dC : Nat → ClassId) (dI : Nat → Nat → Nat) (g : Nat → ClassId) (t : Nat) (sz : Nat) : Met l yX0_init wsX0_init ({ frames := 1, cells := 2, slots := 400, locals := 12 }) (va_Pc [.ref t] (PG (dC, dI) g [(t, .inr (2, [.null, .null, .int 0]))] sz)) (va_Qv (fun (_ : Nat → Nat) => True) (fun (u : Nat → Nat) t9 => va_P (dC, dI) vwCl [(t, .inr (2, [.ref (u 0), .ref (u 1), .int 0])), ((u 0), .inl (g 0, 200, .inl (fun _ => 0))), ((u 1), .inl (g 0, 200, .inl (fun _ => 0)))] t9.heap ∧ va_D (va_A [(t, .inr (2, [.null, .null, .int 0]))] sz) [(t, .inr (2, [.ref (u 0), .ref (u 1), .int 0])), ((u 0), .inl (g 0, 200, .inl (fun _ => 0))), ((u 1), .inl (g 0, 200, .inl (fun _ => 0)))]) (va_A [(t, .inr (2, [.null, .null, .int 0]))] sz)) 2 400 (va_A [(t, .inr (2, [.null, .null, .int 0]))] sz) := by
  refine Met.ofW (cc := cX0_init) (maxL := 1) (ret := none) (by decide) rfl ?_
  intro p e s m args below meth c s₁ B hml hv
  obtain ⟨rfl, hsz, hP, hK, hD0, hG⟩ := hv
  have hx := B.exec
  have hb := B.bytes
  have hr := B.returns
  have hts := atoms_spec (ws := wsX0_init) B.pre
  have hown : s.vm.findClass RX0 = some m.cls := findClass_of_methodNamed B.named
  have hlocks := B.notSynchronized
  have hin : meth.name = "<init>" := (name_of_methodNamed B.named B.method).1
  subst hsz
  have hD := hD0.self (sz := s.heap.size)
  generalize hAe : va_A [(t, .inr (2, [.null, .null, .int 0]))] s.heap.size = A at hD hG ⊢
  have hA : ∀ q : Nat, s.heap.size ≤ q → A q := fun q h => by rw [← hAe]; exact Or.inr h
  have hS : va_S A s.heap s.heap [] := va_S.rf
  have hl := lv_entry ([.ref t]) (n := 1) (Nat.le_of_ble_eq_true rfl)
  rw [lg_entry_eq]
  generalize (lg_sl ([.ref t]) ++ List.replicate (1 - (lg_sl ([.ref t])).length) Slot.unset).toArray = ls at hl ⊢
  have hl : lv_has ls 1 [(0, .ref t)] := hl
  have hml3 := hts (Cond.methodLink RX0 3 objectInit) (by decide +kernel)
  have hoi := hts (Cond.instanceMethod objectInit) (by decide +kernel)
  have hoc := hts (Cond.code objectInit ⟨#[0xb1]⟩ 1 none) (by decide +kernel)
  have hnaint := hts (Cond.arrayClass (newarray.typeOf .int)) (by decide +kernel)
  have hf9 := hts (Cond.fieldLink RX0 9 "RunmergeOffice$Book" "allKeys" "[I") (by decide +kernel)
  have hiX0 : ∀ w ∈ u_ws RX0 TX0 3, w ∈ wsX0_init := by decide +kernel
  have hf15 := hts (Cond.fieldLink RX0 15 "RunmergeOffice$Book" "allMarks" "[I") (by decide +kernel)
  have hf18 := hts (Cond.fieldLink RX0 18 "RunmergeOffice$Book" "count" "I") (by decide +kernel)
  refine lv_aload_n hx hb dX0_init_0 rfl (lv_at hl 0 rfl) ?_
  refine W.objInit hx hb hown hml3 hoi hoc rfl (by rw [hml]; exact hl.1) rfl dX0_init_1 (Nat.le_of_ble_eq_true rfl) (Nat.le_of_ble_eq_true rfl) ?_
  refine W.eq (g2 := F0 m 4 ls []) rfl ?_
  refine lv_aload_n hx hb dX0_init_4 rfl (lv_at hl 0 rfl) ?_
  refine lv_sipush (v := 200) hx hb dX0_init_5 (by decide) ?_
  refine va_newa (atype := .int) (a0 := (200, .inl (fun _ => 0))) hx hb hnaint rfl hK hP hD hS hA (fun _ => rfl) (by decide) (N' := 200) (by decide) (Nat.le_of_ble_eq_true rfl) (Nat.le_of_ble_eq_true rfl) (Nat.le_of_ble_eq_true rfl) dX0_init_8 (fun q_1 cA_3 H_2 hK9 hP hD hS => ?_)
  obtain rfl : g 0 = cA_3 := K_one hK9 0 6 rfl rfl
  have hP : va_P (dC, dI) vwCl [(t, .inr (2, [.null, .null, .int 0])), (q_1, .inl (g 0, 200, .inl (fun _ => 0)))] H_2 := hP
  have hD : va_D A [(t, .inr (2, [.null, .null, .int 0])), (q_1, .inl (g 0, 200, .inl (fun _ => 0)))] := hD
  refine W.widen (k := 1) (n := 200) (by omega) (by omega) ?_
  refine va_putF (D := (dC, dI)) (ci := 2) (v := .ref q_1) (ty := .array .int) (C := RX0) (T := TX0) (N := 3) hx hb hts hiX0 tyX0 tyX0_ok nmX0 hown hK hP hD hS 0 rfl rfl 0 (by decide) hf9 (fun _ h9 => h9) rfl hin rfl (by decide +kernel) rfl rfl (Nat.le_of_ble_eq_true rfl) dX0_init_10 (fun H_4 L_5 hP hD hS => ?_)
  have hP : va_P (dC, dI) vwCl [(t, .inr (2, [.ref q_1, .null, .int 0])), (q_1, .inl (g 0, 200, .inl (fun _ => 0)))] H_4 := hP
  have hD : va_D A [(t, .inr (2, [.ref q_1, .null, .int 0])), (q_1, .inl (g 0, 200, .inl (fun _ => 0)))] := hD
  refine lv_aload_n hx hb dX0_init_13 rfl (lv_at hl 0 rfl) ?_
  refine lv_sipush (v := 200) hx hb dX0_init_14 (by decide) ?_
  refine va_newa (atype := .int) (a0 := (200, .inl (fun _ => 0))) hx hb hnaint rfl hK hP hD hS hA (fun _ => rfl) (by decide) (N' := 200) (by decide) (Nat.le_of_ble_eq_true rfl) (Nat.le_of_ble_eq_true rfl) (Nat.le_of_ble_eq_true rfl) dX0_init_17 (fun q_6 cA_8 H_7 hK9 hP hD hS => ?_)
  obtain rfl : g 0 = cA_8 := K_one hK9 0 6 rfl rfl
  have hP : va_P (dC, dI) vwCl [(t, .inr (2, [.ref q_1, .null, .int 0])), (q_1, .inl (g 0, 200, .inl (fun _ => 0))), (q_6, .inl (g 0, 200, .inl (fun _ => 0)))] H_7 := hP
  have hD : va_D A [(t, .inr (2, [.ref q_1, .null, .int 0])), (q_1, .inl (g 0, 200, .inl (fun _ => 0))), (q_6, .inl (g 0, 200, .inl (fun _ => 0)))] := hD
  refine W.widen (k := 2) (n := 400) (by omega) (by omega) ?_
  refine va_putF (D := (dC, dI)) (ci := 2) (v := .ref q_6) (ty := .array .int) (C := RX0) (T := TX0) (N := 3) hx hb hts hiX0 tyX0 tyX0_ok nmX0 hown hK hP hD hS 0 rfl rfl 1 (by decide) hf15 (fun _ h9 => h9) rfl hin rfl (by decide +kernel) rfl rfl (Nat.le_of_ble_eq_true rfl) dX0_init_19 (fun H_9 L_10 hP hD hS => ?_)
  have hP : va_P (dC, dI) vwCl [(t, .inr (2, [.ref q_1, .ref q_6, .int 0])), (q_1, .inl (g 0, 200, .inl (fun _ => 0))), (q_6, .inl (g 0, 200, .inl (fun _ => 0)))] H_9 := hP
  have hD : va_D A [(t, .inr (2, [.ref q_1, .ref q_6, .int 0])), (q_1, .inl (g 0, 200, .inl (fun _ => 0))), (q_6, .inl (g 0, 200, .inl (fun _ => 0)))] := hD
  refine lv_aload_n hx hb dX0_init_22 rfl (lv_at hl 0 rfl) ?_
  refine lv_iconst (v := 0) hx hb dX0_init_23 (by decide) ?_
  refine va_putS (D := (dC, dI)) (ci := 2) (v := .int 0) (ty := .int) (C := RX0) (T := TX0) (N := 3) hx hb hts hiX0 tyX0 tyX0_ok nmX0 hown hK hP hD hS 0 rfl rfl 2 (by decide) hf18 (fun _ h9 => h9) rfl (by decide +kernel) rfl rfl (Nat.le_of_ble_eq_true rfl) rfl dX0_init_24 (fun H_11 L_12 hP hS => ?_)
  have hP9 := hP.sub (ws' := [(t, .inr (2, [.ref q_1, .ref q_6, .int 0])), (q_1, .inl (g 0, 200, .inl (fun _ => 0))), (q_6, .inl (g 0, 200, .inl (fun _ => 0)))]) [0, 1, 2] rfl
  have hD9 := hD.sub (ws' := [(t, .inr (2, [.ref q_1, .ref q_6, .int 0])), (q_1, .inl (g 0, 200, .inl (fun _ => 0))), (q_6, .inl (g 0, 200, .inl (fun _ => 0)))]) [0, 1, 2] (by decide) rfl
  exact W.vret hx hb hr (fun t ht hW => ⟨⟨(fun j => ([q_1, q_6] : List Nat).getD j 0), rfl, trivial, ⟨P_at ht hP9, hD9⟩⟩, hS.F ht⟩) hS.2.2 dX0_init_27
set_option maxHeartbeats 4000000 in
set_option maxRecDepth 100000 in
theorem c_X7_init (l : Launch) (dC : Nat → ClassId) (dI : Nat → Nat → Nat) (g : Nat → ClassId) (t : Nat) (sz : Nat) : Met l yX7_init wsX7_init ({ frames := 1, cells := 3, slots := 500, locals := 12 }) (va_Pc [.ref t] (PG (dC, dI) g [(t, .inr (9, [.null, .null, .null, .int 0, .int 0]))] sz)) (va_Qv (fun (_ : Nat → Nat) => True) (fun (u : Nat → Nat) t9 => va_P (dC, dI) vwCl [(t, .inr (9, [.ref (u 0), .ref (u 1), .ref (u 2), .int 0, .int 0])), ((u 0), .inl (g 0, 100, .inl (fun _ => 0))), ((u 1), .inl (g 0, 200, .inl (fun _ => 0))), ((u 2), .inl (g 0, 200, .inl (fun _ => 0)))] t9.heap ∧ va_D (va_A [(t, .inr (9, [.null, .null, .null, .int 0, .int 0]))] sz) [(t, .inr (9, [.ref (u 0), .ref (u 1), .ref (u 2), .int 0, .int 0])), ((u 0), .inl (g 0, 100, .inl (fun _ => 0))), ((u 1), .inl (g 0, 200, .inl (fun _ => 0))), ((u 2), .inl (g 0, 200, .inl (fun _ => 0)))]) (va_A [(t, .inr (9, [.null, .null, .null, .int 0, .int 0]))] sz)) 3 500 (va_A [(t, .inr (9, [.null, .null, .null, .int 0, .int 0]))] sz) := by
  refine Met.ofW (cc := cX7_init) (maxL := 1) (ret := none) (by decide) rfl ?_
  intro p e s m args below meth c s₁ B hml hv
  obtain ⟨rfl, hsz, hP, hK, hD0, hG⟩ := hv
  have hx := B.exec
  have hb := B.bytes
  have hr := B.returns
  have hts := atoms_spec (ws := wsX7_init) B.pre
  have hown : s.vm.findClass RX7 = some m.cls := findClass_of_methodNamed B.named
  have hlocks := B.notSynchronized
  have hin : meth.name = "<init>" := (name_of_methodNamed B.named B.method).1
  subst hsz
  have hD := hD0.self (sz := s.heap.size)
  generalize hAe : va_A [(t, .inr (9, [.null, .null, .null, .int 0, .int 0]))] s.heap.size = A at hD hG ⊢
  have hA : ∀ q : Nat, s.heap.size ≤ q → A q := fun q h => by rw [← hAe]; exact Or.inr h
  have hS : va_S A s.heap s.heap [] := va_S.rf
  have hl := lv_entry ([.ref t]) (n := 1) (Nat.le_of_ble_eq_true rfl)
  rw [lg_entry_eq]
  generalize (lg_sl ([.ref t]) ++ List.replicate (1 - (lg_sl ([.ref t])).length) Slot.unset).toArray = ls at hl ⊢
  have hl : lv_has ls 1 [(0, .ref t)] := hl
  have hml3 := hts (Cond.methodLink RX7 3 objectInit) (by decide +kernel)
  have hoi := hts (Cond.instanceMethod objectInit) (by decide +kernel)
  have hoc := hts (Cond.code objectInit ⟨#[0xb1]⟩ 1 none) (by decide +kernel)
  have hnaint := hts (Cond.arrayClass (newarray.typeOf .int)) (by decide +kernel)
  have hf9 := hts (Cond.fieldLink RX7 9 "RunmergeOffice$RunRow" "ranks" "[I") (by decide +kernel)
  have hiX7 : ∀ w ∈ u_ws RX7 TX7 5, w ∈ wsX7_init := by decide +kernel
  have hf15 := hts (Cond.fieldLink RX7 15 "RunmergeOffice$RunRow" "starts" "[I") (by decide +kernel)
  have hf18 := hts (Cond.fieldLink RX7 18 "RunmergeOffice$RunRow" "lengths" "[I") (by decide +kernel)
  have hf21 := hts (Cond.fieldLink RX7 21 "RunmergeOffice$RunRow" "count" "I") (by decide +kernel)
  have hf25 := hts (Cond.fieldLink RX7 25 "RunmergeOffice$RunRow" "filled" "I") (by decide +kernel)
  refine lv_aload_n hx hb dX7_init_0 rfl (lv_at hl 0 rfl) ?_
  refine W.objInit hx hb hown hml3 hoi hoc rfl (by rw [hml]; exact hl.1) rfl dX7_init_1 (Nat.le_of_ble_eq_true rfl) (Nat.le_of_ble_eq_true rfl) ?_
  refine W.eq (g2 := F0 m 4 ls []) rfl ?_
  refine lv_aload_n hx hb dX7_init_4 rfl (lv_at hl 0 rfl) ?_
  refine lv_bipush (v := 100) hx hb dX7_init_5 (by decide) ?_
  refine va_newa (atype := .int) (a0 := (100, .inl (fun _ => 0))) hx hb hnaint rfl hK hP hD hS hA (fun _ => rfl) (by decide) (N' := 100) (by decide) (Nat.le_of_ble_eq_true rfl) (Nat.le_of_ble_eq_true rfl) (Nat.le_of_ble_eq_true rfl) dX7_init_7 (fun q_1 cA_3 H_2 hK9 hP hD hS => ?_)
  obtain rfl : g 0 = cA_3 := K_one hK9 0 6 rfl rfl
  have hP : va_P (dC, dI) vwCl [(t, .inr (9, [.null, .null, .null, .int 0, .int 0])), (q_1, .inl (g 0, 100, .inl (fun _ => 0)))] H_2 := hP
  have hD : va_D A [(t, .inr (9, [.null, .null, .null, .int 0, .int 0])), (q_1, .inl (g 0, 100, .inl (fun _ => 0)))] := hD
  refine W.widen (k := 1) (n := 100) (by omega) (by omega) ?_
  refine va_putF (D := (dC, dI)) (ci := 9) (v := .ref q_1) (ty := .array .int) (C := RX7) (T := TX7) (N := 5) hx hb hts hiX7 tyX7 tyX7_ok nmX7 hown hK hP hD hS 0 rfl rfl 0 (by decide) hf9 (fun _ h9 => h9) rfl hin rfl (by decide +kernel) rfl rfl (Nat.le_of_ble_eq_true rfl) dX7_init_9 (fun H_4 L_5 hP hD hS => ?_)
  have hP : va_P (dC, dI) vwCl [(t, .inr (9, [.ref q_1, .null, .null, .int 0, .int 0])), (q_1, .inl (g 0, 100, .inl (fun _ => 0)))] H_4 := hP
  have hD : va_D A [(t, .inr (9, [.ref q_1, .null, .null, .int 0, .int 0])), (q_1, .inl (g 0, 100, .inl (fun _ => 0)))] := hD
  refine lv_aload_n hx hb dX7_init_12 rfl (lv_at hl 0 rfl) ?_
  refine lv_sipush (v := 200) hx hb dX7_init_13 (by decide) ?_
  refine va_newa (atype := .int) (a0 := (200, .inl (fun _ => 0))) hx hb hnaint rfl hK hP hD hS hA (fun _ => rfl) (by decide) (N' := 200) (by decide) (Nat.le_of_ble_eq_true rfl) (Nat.le_of_ble_eq_true rfl) (Nat.le_of_ble_eq_true rfl) dX7_init_16 (fun q_6 cA_8 H_7 hK9 hP hD hS => ?_)
  obtain rfl : g 0 = cA_8 := K_one hK9 0 6 rfl rfl
  have hP : va_P (dC, dI) vwCl [(t, .inr (9, [.ref q_1, .null, .null, .int 0, .int 0])), (q_1, .inl (g 0, 100, .inl (fun _ => 0))), (q_6, .inl (g 0, 200, .inl (fun _ => 0)))] H_7 := hP
  have hD : va_D A [(t, .inr (9, [.ref q_1, .null, .null, .int 0, .int 0])), (q_1, .inl (g 0, 100, .inl (fun _ => 0))), (q_6, .inl (g 0, 200, .inl (fun _ => 0)))] := hD
  refine W.widen (k := 2) (n := 300) (by omega) (by omega) ?_
  refine va_putF (D := (dC, dI)) (ci := 9) (v := .ref q_6) (ty := .array .int) (C := RX7) (T := TX7) (N := 5) hx hb hts hiX7 tyX7 tyX7_ok nmX7 hown hK hP hD hS 0 rfl rfl 1 (by decide) hf15 (fun _ h9 => h9) rfl hin rfl (by decide +kernel) rfl rfl (Nat.le_of_ble_eq_true rfl) dX7_init_18 (fun H_9 L_10 hP hD hS => ?_)
  have hP : va_P (dC, dI) vwCl [(t, .inr (9, [.ref q_1, .ref q_6, .null, .int 0, .int 0])), (q_1, .inl (g 0, 100, .inl (fun _ => 0))), (q_6, .inl (g 0, 200, .inl (fun _ => 0)))] H_9 := hP
  have hD : va_D A [(t, .inr (9, [.ref q_1, .ref q_6, .null, .int 0, .int 0])), (q_1, .inl (g 0, 100, .inl (fun _ => 0))), (q_6, .inl (g 0, 200, .inl (fun _ => 0)))] := hD
  refine lv_aload_n hx hb dX7_init_21 rfl (lv_at hl 0 rfl) ?_
  refine lv_sipush (v := 200) hx hb dX7_init_22 (by decide) ?_
  refine va_newa (atype := .int) (a0 := (200, .inl (fun _ => 0))) hx hb hnaint rfl hK hP hD hS hA (fun _ => rfl) (by decide) (N' := 200) (by decide) (Nat.le_of_ble_eq_true rfl) (Nat.le_of_ble_eq_true rfl) (Nat.le_of_ble_eq_true rfl) dX7_init_25 (fun q_11 cA_13 H_12 hK9 hP hD hS => ?_)
  obtain rfl : g 0 = cA_13 := K_one hK9 0 6 rfl rfl
  have hP : va_P (dC, dI) vwCl [(t, .inr (9, [.ref q_1, .ref q_6, .null, .int 0, .int 0])), (q_1, .inl (g 0, 100, .inl (fun _ => 0))), (q_6, .inl (g 0, 200, .inl (fun _ => 0))), (q_11, .inl (g 0, 200, .inl (fun _ => 0)))] H_12 := hP
  have hD : va_D A [(t, .inr (9, [.ref q_1, .ref q_6, .null, .int 0, .int 0])), (q_1, .inl (g 0, 100, .inl (fun _ => 0))), (q_6, .inl (g 0, 200, .inl (fun _ => 0))), (q_11, .inl (g 0, 200, .inl (fun _ => 0)))] := hD
  refine W.widen (k := 3) (n := 500) (by omega) (by omega) ?_
  refine va_putF (D := (dC, dI)) (ci := 9) (v := .ref q_11) (ty := .array .int) (C := RX7) (T := TX7) (N := 5) hx hb hts hiX7 tyX7 tyX7_ok nmX7 hown hK hP hD hS 0 rfl rfl 2 (by decide) hf18 (fun _ h9 => h9) rfl hin rfl (by decide +kernel) rfl rfl (Nat.le_of_ble_eq_true rfl) dX7_init_27 (fun H_14 L_15 hP hD hS => ?_)
  have hP : va_P (dC, dI) vwCl [(t, .inr (9, [.ref q_1, .ref q_6, .ref q_11, .int 0, .int 0])), (q_1, .inl (g 0, 100, .inl (fun _ => 0))), (q_6, .inl (g 0, 200, .inl (fun _ => 0))), (q_11, .inl (g 0, 200, .inl (fun _ => 0)))] H_14 := hP
  have hD : va_D A [(t, .inr (9, [.ref q_1, .ref q_6, .ref q_11, .int 0, .int 0])), (q_1, .inl (g 0, 100, .inl (fun _ => 0))), (q_6, .inl (g 0, 200, .inl (fun _ => 0))), (q_11, .inl (g 0, 200, .inl (fun _ => 0)))] := hD
  refine lv_aload_n hx hb dX7_init_30 rfl (lv_at hl 0 rfl) ?_
  refine lv_iconst (v := 0) hx hb dX7_init_31 (by decide) ?_
  refine va_putS (D := (dC, dI)) (ci := 9) (v := .int 0) (ty := .int) (C := RX7) (T := TX7) (N := 5) hx hb hts hiX7 tyX7 tyX7_ok nmX7 hown hK hP hD hS 0 rfl rfl 3 (by decide) hf21 (fun _ h9 => h9) rfl (by decide +kernel) rfl rfl (Nat.le_of_ble_eq_true rfl) rfl dX7_init_32 (fun H_16 L_17 hP hS => ?_)
  refine lv_aload_n hx hb dX7_init_35 rfl (lv_at hl 0 rfl) ?_
  refine lv_iconst (v := 0) hx hb dX7_init_36 (by decide) ?_
  refine va_putS (D := (dC, dI)) (ci := 9) (v := .int 0) (ty := .int) (C := RX7) (T := TX7) (N := 5) hx hb hts hiX7 tyX7 tyX7_ok nmX7 hown hK hP hD hS 0 rfl rfl 4 (by decide) hf25 (fun _ h9 => h9) rfl (by decide +kernel) rfl rfl (Nat.le_of_ble_eq_true rfl) rfl dX7_init_37 (fun H_18 L_19 hP hS => ?_)
  have hP9 := hP.sub (ws' := [(t, .inr (9, [.ref q_1, .ref q_6, .ref q_11, .int 0, .int 0])), (q_1, .inl (g 0, 100, .inl (fun _ => 0))), (q_6, .inl (g 0, 200, .inl (fun _ => 0))), (q_11, .inl (g 0, 200, .inl (fun _ => 0)))]) [0, 1, 2, 3] rfl
  have hD9 := hD.sub (ws' := [(t, .inr (9, [.ref q_1, .ref q_6, .ref q_11, .int 0, .int 0])), (q_1, .inl (g 0, 100, .inl (fun _ => 0))), (q_6, .inl (g 0, 200, .inl (fun _ => 0))), (q_11, .inl (g 0, 200, .inl (fun _ => 0)))]) [0, 1, 2, 3] (by decide) rfl
  exact W.vret hx hb hr (fun t ht hW => ⟨⟨(fun j => ([q_1, q_6, q_11] : List Nat).getD j 0), rfl, trivial, ⟨P_at ht hP9, hD9⟩⟩, hS.F ht⟩) hS.2.2 dX7_init_40
set_option maxHeartbeats 4000000 in
set_option maxRecDepth 100000 in
theorem c_X8_init (l : Launch) (dC : Nat → ClassId) (dI : Nat → Nat → Nat) (g : Nat → ClassId) (t : Nat) (sz : Nat) : Met l yX8_init wsX8_init ({ frames := 1, cells := 0, slots := 0, locals := 12 }) (va_Pc [.ref t] (PG (dC, dI) g [(t, .inr (10, [.int 0, .int 0, .int 0, .int 0, .int 0]))] sz)) (va_Qv (fun (_ : Nat → Nat) => True) (fun (u : Nat → Nat) t9 => va_P (dC, dI) vwCl [(t, .inr (10, [.int 0, .int 1, .int 4, .int 0, .int 2]))] t9.heap ∧ va_D (va_A [(t, .inr (10, [.int 0, .int 0, .int 0, .int 0, .int 0]))] sz) [(t, .inr (10, [.int 0, .int 1, .int 4, .int 0, .int 2]))]) (va_A [(t, .inr (10, [.int 0, .int 0, .int 0, .int 0, .int 0]))] sz)) 0 0 (va_A [(t, .inr (10, [.int 0, .int 0, .int 0, .int 0, .int 0]))] sz) := by
  refine Met.ofW (cc := cX8_init) (maxL := 1) (ret := none) (by decide) rfl ?_
  intro p e s m args below meth c s₁ B hml hv
  obtain ⟨rfl, hsz, hP, hK, hD0, hG⟩ := hv
  have hx := B.exec
  have hb := B.bytes
  have hr := B.returns
  have hts := atoms_spec (ws := wsX8_init) B.pre
  have hown : s.vm.findClass RX8 = some m.cls := findClass_of_methodNamed B.named
  have hlocks := B.notSynchronized
  subst hsz
  have hD := hD0.self (sz := s.heap.size)
  generalize hAe : va_A [(t, .inr (10, [.int 0, .int 0, .int 0, .int 0, .int 0]))] s.heap.size = A at hD hG ⊢
  have hA : ∀ q : Nat, s.heap.size ≤ q → A q := fun q h => by rw [← hAe]; exact Or.inr h
  have hS : va_S A s.heap s.heap [] := va_S.rf
  have hl := lv_entry ([.ref t]) (n := 1) (Nat.le_of_ble_eq_true rfl)
  rw [lg_entry_eq]
  generalize (lg_sl ([.ref t]) ++ List.replicate (1 - (lg_sl ([.ref t])).length) Slot.unset).toArray = ls at hl ⊢
  have hl : lv_has ls 1 [(0, .ref t)] := hl
  have hml3 := hts (Cond.methodLink RX8 3 objectInit) (by decide +kernel)
  have hoi := hts (Cond.instanceMethod objectInit) (by decide +kernel)
  have hoc := hts (Cond.code objectInit ⟨#[0xb1]⟩ 1 none) (by decide +kernel)
  have hf9 := hts (Cond.fieldLink RX8 9 "RunmergeOffice$Settings" "order" "I") (by decide +kernel)
  have hiX8 : ∀ w ∈ u_ws RX8 TX8 5, w ∈ wsX8_init := by decide +kernel
  have hf15 := hts (Cond.fieldLink RX8 15 "RunmergeOffice$Settings" "runWay" "I") (by decide +kernel)
  have hf18 := hts (Cond.fieldLink RX8 18 "RunmergeOffice$Settings" "memory" "I") (by decide +kernel)
  have hf21 := hts (Cond.fieldLink RX8 21 "RunmergeOffice$Settings" "mergeWay" "I") (by decide +kernel)
  have hf24 := hts (Cond.fieldLink RX8 24 "RunmergeOffice$Settings" "ways" "I") (by decide +kernel)
  refine lv_aload_n hx hb dX8_init_0 rfl (lv_at hl 0 rfl) ?_
  refine W.objInit hx hb hown hml3 hoi hoc rfl (by rw [hml]; exact hl.1) rfl dX8_init_1 (Nat.le_of_ble_eq_true rfl) (Nat.le_of_ble_eq_true rfl) ?_
  refine W.eq (g2 := F0 m 4 ls []) rfl ?_
  refine lv_aload_n hx hb dX8_init_4 rfl (lv_at hl 0 rfl) ?_
  refine lv_iconst (v := 0) hx hb dX8_init_5 (by decide) ?_
  refine va_putS (D := (dC, dI)) (ci := 10) (v := .int 0) (ty := .int) (C := RX8) (T := TX8) (N := 5) hx hb hts hiX8 tyX8 tyX8_ok nmX8 hown hK hP hD hS 0 rfl rfl 0 (by decide) hf9 (fun _ h9 => h9) rfl (by decide +kernel) rfl rfl (Nat.le_of_ble_eq_true rfl) rfl dX8_init_6 (fun H_1 L_2 hP hS => ?_)
  refine lv_aload_n hx hb dX8_init_9 rfl (lv_at hl 0 rfl) ?_
  refine lv_iconst (v := 1) hx hb dX8_init_10 (by decide) ?_
  refine va_put (D := (dC, dI)) (ci := 10) (v := .int 1) (ty := .int) (C := RX8) (T := TX8) (N := 5) hx hb hts hiX8 tyX8 tyX8_ok nmX8 hown hK hP hD hS 0 rfl rfl 1 (by decide) hf15 (fun _ h9 => h9) rfl (by decide +kernel) rfl rfl (Nat.le_of_ble_eq_true rfl) dX8_init_11 (fun H_3 L_4 hP hD hS => ?_)
  have hP : va_P (dC, dI) vwCl [(t, .inr (10, [.int 0, .int 1, .int 0, .int 0, .int 0]))] H_3 := hP
  have hD : va_D A [(t, .inr (10, [.int 0, .int 1, .int 0, .int 0, .int 0]))] := hD
  refine lv_aload_n hx hb dX8_init_14 rfl (lv_at hl 0 rfl) ?_
  refine lv_iconst (v := 4) hx hb dX8_init_15 (by decide) ?_
  refine va_put (D := (dC, dI)) (ci := 10) (v := .int 4) (ty := .int) (C := RX8) (T := TX8) (N := 5) hx hb hts hiX8 tyX8 tyX8_ok nmX8 hown hK hP hD hS 0 rfl rfl 2 (by decide) hf18 (fun _ h9 => h9) rfl (by decide +kernel) rfl rfl (Nat.le_of_ble_eq_true rfl) dX8_init_16 (fun H_5 L_6 hP hD hS => ?_)
  have hP : va_P (dC, dI) vwCl [(t, .inr (10, [.int 0, .int 1, .int 4, .int 0, .int 0]))] H_5 := hP
  have hD : va_D A [(t, .inr (10, [.int 0, .int 1, .int 4, .int 0, .int 0]))] := hD
  refine lv_aload_n hx hb dX8_init_19 rfl (lv_at hl 0 rfl) ?_
  refine lv_iconst (v := 0) hx hb dX8_init_20 (by decide) ?_
  refine va_putS (D := (dC, dI)) (ci := 10) (v := .int 0) (ty := .int) (C := RX8) (T := TX8) (N := 5) hx hb hts hiX8 tyX8 tyX8_ok nmX8 hown hK hP hD hS 0 rfl rfl 3 (by decide) hf21 (fun _ h9 => h9) rfl (by decide +kernel) rfl rfl (Nat.le_of_ble_eq_true rfl) rfl dX8_init_21 (fun H_7 L_8 hP hS => ?_)
  refine lv_aload_n hx hb dX8_init_24 rfl (lv_at hl 0 rfl) ?_
  refine lv_iconst (v := 2) hx hb dX8_init_25 (by decide) ?_
  refine va_put (D := (dC, dI)) (ci := 10) (v := .int 2) (ty := .int) (C := RX8) (T := TX8) (N := 5) hx hb hts hiX8 tyX8 tyX8_ok nmX8 hown hK hP hD hS 0 rfl rfl 4 (by decide) hf24 (fun _ h9 => h9) rfl (by decide +kernel) rfl rfl (Nat.le_of_ble_eq_true rfl) dX8_init_26 (fun H_9 L_10 hP hD hS => ?_)
  have hP : va_P (dC, dI) vwCl [(t, .inr (10, [.int 0, .int 1, .int 4, .int 0, .int 2]))] H_9 := hP
  have hD : va_D A [(t, .inr (10, [.int 0, .int 1, .int 4, .int 0, .int 2]))] := hD
  have hP9 := hP.sub (ws' := [(t, .inr (10, [.int 0, .int 1, .int 4, .int 0, .int 2]))]) [0] rfl
  have hD9 := hD.sub (ws' := [(t, .inr (10, [.int 0, .int 1, .int 4, .int 0, .int 2]))]) [0] (by decide) rfl
  exact W.vret hx hb hr (fun t ht hW => ⟨⟨(fun j => ([] : List Nat).getD j 0), rfl, trivial, ⟨P_at ht hP9, hD9⟩⟩, hS.F ht⟩) hS.2.2 dX8_init_29
set_option maxHeartbeats 4000000 in
set_option maxRecDepth 100000 in
theorem c_X6_init (l : Launch) (dC : Nat → ClassId) (dI : Nat → Nat → Nat) (g : Nat → ClassId) (t : Nat) (sz : Nat) : Met l yX6_init wsX6_init ({ frames := 1, cells := 2, slots := 100, locals := 12 }) (va_Pc [.ref t] (PG (dC, dI) g [(t, .inr (8, [.null, .null, .int 0]))] sz)) (va_Qv (fun (_ : Nat → Nat) => True) (fun (u : Nat → Nat) t9 => va_P (dC, dI) vwCl [(t, .inr (8, [.ref (u 0), .ref (u 1), .int 0])), ((u 0), .inl (g 0, 50, .inl (fun _ => 0))), ((u 1), .inl (g 0, 50, .inl (fun _ => 0)))] t9.heap ∧ va_D (va_A [(t, .inr (8, [.null, .null, .int 0]))] sz) [(t, .inr (8, [.ref (u 0), .ref (u 1), .int 0])), ((u 0), .inl (g 0, 50, .inl (fun _ => 0))), ((u 1), .inl (g 0, 50, .inl (fun _ => 0)))]) (va_A [(t, .inr (8, [.null, .null, .int 0]))] sz)) 2 100 (va_A [(t, .inr (8, [.null, .null, .int 0]))] sz) := by
  refine Met.ofW (cc := cX6_init) (maxL := 1) (ret := none) (by decide) rfl ?_
  intro p e s m args below meth c s₁ B hml hv
  obtain ⟨rfl, hsz, hP, hK, hD0, hG⟩ := hv
  have hx := B.exec
  have hb := B.bytes
  have hr := B.returns
  have hts := atoms_spec (ws := wsX6_init) B.pre
  have hown : s.vm.findClass RX6 = some m.cls := findClass_of_methodNamed B.named
  have hlocks := B.notSynchronized
  have hin : meth.name = "<init>" := (name_of_methodNamed B.named B.method).1
  subst hsz
  have hD := hD0.self (sz := s.heap.size)
  generalize hAe : va_A [(t, .inr (8, [.null, .null, .int 0]))] s.heap.size = A at hD hG ⊢
  have hA : ∀ q : Nat, s.heap.size ≤ q → A q := fun q h => by rw [← hAe]; exact Or.inr h
  have hS : va_S A s.heap s.heap [] := va_S.rf
  have hl := lv_entry ([.ref t]) (n := 1) (Nat.le_of_ble_eq_true rfl)
  rw [lg_entry_eq]
  generalize (lg_sl ([.ref t]) ++ List.replicate (1 - (lg_sl ([.ref t])).length) Slot.unset).toArray = ls at hl ⊢
  have hl : lv_has ls 1 [(0, .ref t)] := hl
  have hml3 := hts (Cond.methodLink RX6 3 objectInit) (by decide +kernel)
  have hoi := hts (Cond.instanceMethod objectInit) (by decide +kernel)
  have hoc := hts (Cond.code objectInit ⟨#[0xb1]⟩ 1 none) (by decide +kernel)
  have hnaint := hts (Cond.arrayClass (newarray.typeOf .int)) (by decide +kernel)
  have hf9 := hts (Cond.fieldLink RX6 9 "RunmergeOffice$RunMaker" "memory" "[I") (by decide +kernel)
  have hiX6 : ∀ w ∈ u_ws RX6 TX6 3, w ∈ wsX6_init := by decide +kernel
  have hf15 := hts (Cond.fieldLink RX6 15 "RunmergeOffice$RunMaker" "runOf" "[I") (by decide +kernel)
  have hf18 := hts (Cond.fieldLink RX6 18 "RunmergeOffice$RunMaker" "held" "I") (by decide +kernel)
  refine lv_aload_n hx hb dX6_init_0 rfl (lv_at hl 0 rfl) ?_
  refine W.objInit hx hb hown hml3 hoi hoc rfl (by rw [hml]; exact hl.1) rfl dX6_init_1 (Nat.le_of_ble_eq_true rfl) (Nat.le_of_ble_eq_true rfl) ?_
  refine W.eq (g2 := F0 m 4 ls []) rfl ?_
  refine lv_aload_n hx hb dX6_init_4 rfl (lv_at hl 0 rfl) ?_
  refine lv_bipush (v := 50) hx hb dX6_init_5 (by decide) ?_
  refine va_newa (atype := .int) (a0 := (50, .inl (fun _ => 0))) hx hb hnaint rfl hK hP hD hS hA (fun _ => rfl) (by decide) (N' := 50) (by decide) (Nat.le_of_ble_eq_true rfl) (Nat.le_of_ble_eq_true rfl) (Nat.le_of_ble_eq_true rfl) dX6_init_7 (fun q_1 cA_3 H_2 hK9 hP hD hS => ?_)
  obtain rfl : g 0 = cA_3 := K_one hK9 0 6 rfl rfl
  have hP : va_P (dC, dI) vwCl [(t, .inr (8, [.null, .null, .int 0])), (q_1, .inl (g 0, 50, .inl (fun _ => 0)))] H_2 := hP
  have hD : va_D A [(t, .inr (8, [.null, .null, .int 0])), (q_1, .inl (g 0, 50, .inl (fun _ => 0)))] := hD
  refine W.widen (k := 1) (n := 50) (by omega) (by omega) ?_
  refine va_putF (D := (dC, dI)) (ci := 8) (v := .ref q_1) (ty := .array .int) (C := RX6) (T := TX6) (N := 3) hx hb hts hiX6 tyX6 tyX6_ok nmX6 hown hK hP hD hS 0 rfl rfl 0 (by decide) hf9 (fun _ h9 => h9) rfl hin rfl (by decide +kernel) rfl rfl (Nat.le_of_ble_eq_true rfl) dX6_init_9 (fun H_4 L_5 hP hD hS => ?_)
  have hP : va_P (dC, dI) vwCl [(t, .inr (8, [.ref q_1, .null, .int 0])), (q_1, .inl (g 0, 50, .inl (fun _ => 0)))] H_4 := hP
  have hD : va_D A [(t, .inr (8, [.ref q_1, .null, .int 0])), (q_1, .inl (g 0, 50, .inl (fun _ => 0)))] := hD
  refine lv_aload_n hx hb dX6_init_12 rfl (lv_at hl 0 rfl) ?_
  refine lv_bipush (v := 50) hx hb dX6_init_13 (by decide) ?_
  refine va_newa (atype := .int) (a0 := (50, .inl (fun _ => 0))) hx hb hnaint rfl hK hP hD hS hA (fun _ => rfl) (by decide) (N' := 50) (by decide) (Nat.le_of_ble_eq_true rfl) (Nat.le_of_ble_eq_true rfl) (Nat.le_of_ble_eq_true rfl) dX6_init_15 (fun q_6 cA_8 H_7 hK9 hP hD hS => ?_)
  obtain rfl : g 0 = cA_8 := K_one hK9 0 6 rfl rfl
  have hP : va_P (dC, dI) vwCl [(t, .inr (8, [.ref q_1, .null, .int 0])), (q_1, .inl (g 0, 50, .inl (fun _ => 0))), (q_6, .inl (g 0, 50, .inl (fun _ => 0)))] H_7 := hP
  have hD : va_D A [(t, .inr (8, [.ref q_1, .null, .int 0])), (q_1, .inl (g 0, 50, .inl (fun _ => 0))), (q_6, .inl (g 0, 50, .inl (fun _ => 0)))] := hD
  refine W.widen (k := 2) (n := 100) (by omega) (by omega) ?_
  refine va_putF (D := (dC, dI)) (ci := 8) (v := .ref q_6) (ty := .array .int) (C := RX6) (T := TX6) (N := 3) hx hb hts hiX6 tyX6 tyX6_ok nmX6 hown hK hP hD hS 0 rfl rfl 1 (by decide) hf15 (fun _ h9 => h9) rfl hin rfl (by decide +kernel) rfl rfl (Nat.le_of_ble_eq_true rfl) dX6_init_17 (fun H_9 L_10 hP hD hS => ?_)
  have hP : va_P (dC, dI) vwCl [(t, .inr (8, [.ref q_1, .ref q_6, .int 0])), (q_1, .inl (g 0, 50, .inl (fun _ => 0))), (q_6, .inl (g 0, 50, .inl (fun _ => 0)))] H_9 := hP
  have hD : va_D A [(t, .inr (8, [.ref q_1, .ref q_6, .int 0])), (q_1, .inl (g 0, 50, .inl (fun _ => 0))), (q_6, .inl (g 0, 50, .inl (fun _ => 0)))] := hD
  refine lv_aload_n hx hb dX6_init_20 rfl (lv_at hl 0 rfl) ?_
  refine lv_iconst (v := 0) hx hb dX6_init_21 (by decide) ?_
  refine va_putS (D := (dC, dI)) (ci := 8) (v := .int 0) (ty := .int) (C := RX6) (T := TX6) (N := 3) hx hb hts hiX6 tyX6 tyX6_ok nmX6 hown hK hP hD hS 0 rfl rfl 2 (by decide) hf18 (fun _ h9 => h9) rfl (by decide +kernel) rfl rfl (Nat.le_of_ble_eq_true rfl) rfl dX6_init_22 (fun H_11 L_12 hP hS => ?_)
  have hP9 := hP.sub (ws' := [(t, .inr (8, [.ref q_1, .ref q_6, .int 0])), (q_1, .inl (g 0, 50, .inl (fun _ => 0))), (q_6, .inl (g 0, 50, .inl (fun _ => 0)))]) [0, 1, 2] rfl
  have hD9 := hD.sub (ws' := [(t, .inr (8, [.ref q_1, .ref q_6, .int 0])), (q_1, .inl (g 0, 50, .inl (fun _ => 0))), (q_6, .inl (g 0, 50, .inl (fun _ => 0)))]) [0, 1, 2] (by decide) rfl
  exact W.vret hx hb hr (fun t ht hW => ⟨⟨(fun j => ([q_1, q_6] : List Nat).getD j 0), rfl, trivial, ⟨P_at ht hP9, hD9⟩⟩, hS.F ht⟩) hS.2.2 dX6_init_25
set_option maxHeartbeats 4000000 in
set_option maxRecDepth 100000 in
theorem c_X3_init (l : Launch) (dC : Nat → ClassId) (dI : Nat → Nat → Nat) (g : Nat → ClassId) (t : Nat) (sz : Nat) : Met l yX3_init wsX3_init ({ frames := 1, cells := 2, slots := 206, locals := 12 }) (va_Pc [.ref t] (PG (dC, dI) g [(t, .inr (5, [.null, .null, .int 0, .int 0, .int 0, .int 0]))] sz)) (va_Qv (fun (_ : Nat → Nat) => True) (fun (u : Nat → Nat) t9 => va_P (dC, dI) vwCl [(t, .inr (5, [.ref (u 0), .ref (u 1), .int 0, .int 2, .int 0, .int 0])), ((u 0), .inl (g 0, 200, .inl (fun _ => 0))), ((u 1), .inl (g 0, 6, .inl (fun _ => 0)))] t9.heap ∧ va_D (va_A [(t, .inr (5, [.null, .null, .int 0, .int 0, .int 0, .int 0]))] sz) [(t, .inr (5, [.ref (u 0), .ref (u 1), .int 0, .int 2, .int 0, .int 0])), ((u 0), .inl (g 0, 200, .inl (fun _ => 0))), ((u 1), .inl (g 0, 6, .inl (fun _ => 0)))]) (va_A [(t, .inr (5, [.null, .null, .int 0, .int 0, .int 0, .int 0]))] sz)) 2 206 (va_A [(t, .inr (5, [.null, .null, .int 0, .int 0, .int 0, .int 0]))] sz) := by
  refine Met.ofW (cc := cX3_init) (maxL := 1) (ret := none) (by decide) rfl ?_
  intro p e s m args below meth c s₁ B hml hv
  obtain ⟨rfl, hsz, hP, hK, hD0, hG⟩ := hv
  have hx := B.exec
  have hb := B.bytes
  have hr := B.returns
  have hts := atoms_spec (ws := wsX3_init) B.pre
  have hown : s.vm.findClass RX3 = some m.cls := findClass_of_methodNamed B.named
  have hlocks := B.notSynchronized
  have hin : meth.name = "<init>" := (name_of_methodNamed B.named B.method).1
  subst hsz
  have hD := hD0.self (sz := s.heap.size)
  generalize hAe : va_A [(t, .inr (5, [.null, .null, .int 0, .int 0, .int 0, .int 0]))] s.heap.size = A at hD hG ⊢
  have hA : ∀ q : Nat, s.heap.size ≤ q → A q := fun q h => by rw [← hAe]; exact Or.inr h
  have hS : va_S A s.heap s.heap [] := va_S.rf
  have hl := lv_entry ([.ref t]) (n := 1) (Nat.le_of_ble_eq_true rfl)
  rw [lg_entry_eq]
  generalize (lg_sl ([.ref t]) ++ List.replicate (1 - (lg_sl ([.ref t])).length) Slot.unset).toArray = ls at hl ⊢
  have hl : lv_has ls 1 [(0, .ref t)] := hl
  have hml3 := hts (Cond.methodLink RX3 3 objectInit) (by decide +kernel)
  have hoi := hts (Cond.instanceMethod objectInit) (by decide +kernel)
  have hoc := hts (Cond.code objectInit ⟨#[0xb1]⟩ 1 none) (by decide +kernel)
  have hnaint := hts (Cond.arrayClass (newarray.typeOf .int)) (by decide +kernel)
  have hf9 := hts (Cond.fieldLink RX3 9 "RunmergeOffice$Pass" "mergeTaking" "[I") (by decide +kernel)
  have hiX3 : ∀ w ∈ u_ws RX3 TX3 6, w ∈ wsX3_init := by decide +kernel
  have hf15 := hts (Cond.fieldLink RX3 15 "RunmergeOffice$Pass" "rows" "[I") (by decide +kernel)
  have hf18 := hts (Cond.fieldLink RX3 18 "RunmergeOffice$Pass" "way" "I") (by decide +kernel)
  have hf22 := hts (Cond.fieldLink RX3 22 "RunmergeOffice$Pass" "ways" "I") (by decide +kernel)
  have hf25 := hts (Cond.fieldLink RX3 25 "RunmergeOffice$Pass" "merges" "I") (by decide +kernel)
  have hf28 := hts (Cond.fieldLink RX3 28 "RunmergeOffice$Pass" "level" "I") (by decide +kernel)
  refine lv_aload_n hx hb dX3_init_0 rfl (lv_at hl 0 rfl) ?_
  refine W.objInit hx hb hown hml3 hoi hoc rfl (by rw [hml]; exact hl.1) rfl dX3_init_1 (Nat.le_of_ble_eq_true rfl) (Nat.le_of_ble_eq_true rfl) ?_
  refine W.eq (g2 := F0 m 4 ls []) rfl ?_
  refine lv_aload_n hx hb dX3_init_4 rfl (lv_at hl 0 rfl) ?_
  refine lv_sipush (v := 200) hx hb dX3_init_5 (by decide) ?_
  refine va_newa (atype := .int) (a0 := (200, .inl (fun _ => 0))) hx hb hnaint rfl hK hP hD hS hA (fun _ => rfl) (by decide) (N' := 200) (by decide) (Nat.le_of_ble_eq_true rfl) (Nat.le_of_ble_eq_true rfl) (Nat.le_of_ble_eq_true rfl) dX3_init_8 (fun q_1 cA_3 H_2 hK9 hP hD hS => ?_)
  obtain rfl : g 0 = cA_3 := K_one hK9 0 6 rfl rfl
  have hP : va_P (dC, dI) vwCl [(t, .inr (5, [.null, .null, .int 0, .int 0, .int 0, .int 0])), (q_1, .inl (g 0, 200, .inl (fun _ => 0)))] H_2 := hP
  have hD : va_D A [(t, .inr (5, [.null, .null, .int 0, .int 0, .int 0, .int 0])), (q_1, .inl (g 0, 200, .inl (fun _ => 0)))] := hD
  refine W.widen (k := 1) (n := 200) (by omega) (by omega) ?_
  refine va_putF (D := (dC, dI)) (ci := 5) (v := .ref q_1) (ty := .array .int) (C := RX3) (T := TX3) (N := 6) hx hb hts hiX3 tyX3 tyX3_ok nmX3 hown hK hP hD hS 0 rfl rfl 0 (by decide) hf9 (fun _ h9 => h9) rfl hin rfl (by decide +kernel) rfl rfl (Nat.le_of_ble_eq_true rfl) dX3_init_10 (fun H_4 L_5 hP hD hS => ?_)
  have hP : va_P (dC, dI) vwCl [(t, .inr (5, [.ref q_1, .null, .int 0, .int 0, .int 0, .int 0])), (q_1, .inl (g 0, 200, .inl (fun _ => 0)))] H_4 := hP
  have hD : va_D A [(t, .inr (5, [.ref q_1, .null, .int 0, .int 0, .int 0, .int 0])), (q_1, .inl (g 0, 200, .inl (fun _ => 0)))] := hD
  refine lv_aload_n hx hb dX3_init_13 rfl (lv_at hl 0 rfl) ?_
  refine lv_bipush (v := 6) hx hb dX3_init_14 (by decide) ?_
  refine va_newa (atype := .int) (a0 := (6, .inl (fun _ => 0))) hx hb hnaint rfl hK hP hD hS hA (fun _ => rfl) (by decide) (N' := 6) (by decide) (Nat.le_of_ble_eq_true rfl) (Nat.le_of_ble_eq_true rfl) (Nat.le_of_ble_eq_true rfl) dX3_init_16 (fun q_6 cA_8 H_7 hK9 hP hD hS => ?_)
  obtain rfl : g 0 = cA_8 := K_one hK9 0 6 rfl rfl
  have hP : va_P (dC, dI) vwCl [(t, .inr (5, [.ref q_1, .null, .int 0, .int 0, .int 0, .int 0])), (q_1, .inl (g 0, 200, .inl (fun _ => 0))), (q_6, .inl (g 0, 6, .inl (fun _ => 0)))] H_7 := hP
  have hD : va_D A [(t, .inr (5, [.ref q_1, .null, .int 0, .int 0, .int 0, .int 0])), (q_1, .inl (g 0, 200, .inl (fun _ => 0))), (q_6, .inl (g 0, 6, .inl (fun _ => 0)))] := hD
  refine W.widen (k := 2) (n := 206) (by omega) (by omega) ?_
  refine va_putF (D := (dC, dI)) (ci := 5) (v := .ref q_6) (ty := .array .int) (C := RX3) (T := TX3) (N := 6) hx hb hts hiX3 tyX3 tyX3_ok nmX3 hown hK hP hD hS 0 rfl rfl 1 (by decide) hf15 (fun _ h9 => h9) rfl hin rfl (by decide +kernel) rfl rfl (Nat.le_of_ble_eq_true rfl) dX3_init_18 (fun H_9 L_10 hP hD hS => ?_)
  have hP : va_P (dC, dI) vwCl [(t, .inr (5, [.ref q_1, .ref q_6, .int 0, .int 0, .int 0, .int 0])), (q_1, .inl (g 0, 200, .inl (fun _ => 0))), (q_6, .inl (g 0, 6, .inl (fun _ => 0)))] H_9 := hP
  have hD : va_D A [(t, .inr (5, [.ref q_1, .ref q_6, .int 0, .int 0, .int 0, .int 0])), (q_1, .inl (g 0, 200, .inl (fun _ => 0))), (q_6, .inl (g 0, 6, .inl (fun _ => 0)))] := hD
  refine lv_aload_n hx hb dX3_init_21 rfl (lv_at hl 0 rfl) ?_
  refine lv_iconst (v := 0) hx hb dX3_init_22 (by decide) ?_
  refine va_putS (D := (dC, dI)) (ci := 5) (v := .int 0) (ty := .int) (C := RX3) (T := TX3) (N := 6) hx hb hts hiX3 tyX3 tyX3_ok nmX3 hown hK hP hD hS 0 rfl rfl 2 (by decide) hf18 (fun _ h9 => h9) rfl (by decide +kernel) rfl rfl (Nat.le_of_ble_eq_true rfl) rfl dX3_init_23 (fun H_11 L_12 hP hS => ?_)
  refine lv_aload_n hx hb dX3_init_26 rfl (lv_at hl 0 rfl) ?_
  refine lv_iconst (v := 2) hx hb dX3_init_27 (by decide) ?_
  refine va_put (D := (dC, dI)) (ci := 5) (v := .int 2) (ty := .int) (C := RX3) (T := TX3) (N := 6) hx hb hts hiX3 tyX3 tyX3_ok nmX3 hown hK hP hD hS 0 rfl rfl 3 (by decide) hf22 (fun _ h9 => h9) rfl (by decide +kernel) rfl rfl (Nat.le_of_ble_eq_true rfl) dX3_init_28 (fun H_13 L_14 hP hD hS => ?_)
  have hP : va_P (dC, dI) vwCl [(t, .inr (5, [.ref q_1, .ref q_6, .int 0, .int 2, .int 0, .int 0])), (q_1, .inl (g 0, 200, .inl (fun _ => 0))), (q_6, .inl (g 0, 6, .inl (fun _ => 0)))] H_13 := hP
  have hD : va_D A [(t, .inr (5, [.ref q_1, .ref q_6, .int 0, .int 2, .int 0, .int 0])), (q_1, .inl (g 0, 200, .inl (fun _ => 0))), (q_6, .inl (g 0, 6, .inl (fun _ => 0)))] := hD
  refine lv_aload_n hx hb dX3_init_31 rfl (lv_at hl 0 rfl) ?_
  refine lv_iconst (v := 0) hx hb dX3_init_32 (by decide) ?_
  refine va_putS (D := (dC, dI)) (ci := 5) (v := .int 0) (ty := .int) (C := RX3) (T := TX3) (N := 6) hx hb hts hiX3 tyX3 tyX3_ok nmX3 hown hK hP hD hS 0 rfl rfl 4 (by decide) hf25 (fun _ h9 => h9) rfl (by decide +kernel) rfl rfl (Nat.le_of_ble_eq_true rfl) rfl dX3_init_33 (fun H_15 L_16 hP hS => ?_)
  refine lv_aload_n hx hb dX3_init_36 rfl (lv_at hl 0 rfl) ?_
  refine lv_iconst (v := 0) hx hb dX3_init_37 (by decide) ?_
  refine va_putS (D := (dC, dI)) (ci := 5) (v := .int 0) (ty := .int) (C := RX3) (T := TX3) (N := 6) hx hb hts hiX3 tyX3 tyX3_ok nmX3 hown hK hP hD hS 0 rfl rfl 5 (by decide) hf28 (fun _ h9 => h9) rfl (by decide +kernel) rfl rfl (Nat.le_of_ble_eq_true rfl) rfl dX3_init_38 (fun H_17 L_18 hP hS => ?_)
  have hP9 := hP.sub (ws' := [(t, .inr (5, [.ref q_1, .ref q_6, .int 0, .int 2, .int 0, .int 0])), (q_1, .inl (g 0, 200, .inl (fun _ => 0))), (q_6, .inl (g 0, 6, .inl (fun _ => 0)))]) [0, 1, 2] rfl
  have hD9 := hD.sub (ws' := [(t, .inr (5, [.ref q_1, .ref q_6, .int 0, .int 2, .int 0, .int 0])), (q_1, .inl (g 0, 200, .inl (fun _ => 0))), (q_6, .inl (g 0, 6, .inl (fun _ => 0)))]) [0, 1, 2] (by decide) rfl
  exact W.vret hx hb hr (fun t ht hW => ⟨⟨(fun j => ([q_1, q_6] : List Nat).getD j 0), rfl, trivial, ⟨P_at ht hP9, hD9⟩⟩, hS.F ht⟩) hS.2.2 dX3_init_41
set_option maxHeartbeats 4000000 in
set_option maxRecDepth 100000 in
theorem c_X10_init (l : Launch) (dC : Nat → ClassId) (dI : Nat → Nat → Nat) (g : Nat → ClassId) (t : Nat) (sz : Nat) : Met l yX10_init wsX10_init ({ frames := 1, cells := 1, slots := 160, locals := 12 }) (va_Pc [.ref t] (PG (dC, dI) g [(t, .inr (12, [.null, .int 0]))] sz)) (va_Qv (fun (_ : Nat → Nat) => True) (fun (u : Nat → Nat) t9 => va_P (dC, dI) vwCl [(t, .inr (12, [.ref (u 0), .int 0])), ((u 0), .inl (g 0, 160, .inl (fun _ => 0)))] t9.heap ∧ va_D (va_A [(t, .inr (12, [.null, .int 0]))] sz) [(t, .inr (12, [.ref (u 0), .int 0])), ((u 0), .inl (g 0, 160, .inl (fun _ => 0)))]) (va_A [(t, .inr (12, [.null, .int 0]))] sz)) 1 160 (va_A [(t, .inr (12, [.null, .int 0]))] sz) := by
  refine Met.ofW (cc := cX10_init) (maxL := 1) (ret := none) (by decide) rfl ?_
  intro p e s m args below meth c s₁ B hml hv
  obtain ⟨rfl, hsz, hP, hK, hD0, hG⟩ := hv
  have hx := B.exec
  have hb := B.bytes
  have hr := B.returns
  have hts := atoms_spec (ws := wsX10_init) B.pre
  have hown : s.vm.findClass RX10 = some m.cls := findClass_of_methodNamed B.named
  have hlocks := B.notSynchronized
  have hin : meth.name = "<init>" := (name_of_methodNamed B.named B.method).1
  subst hsz
  have hD := hD0.self (sz := s.heap.size)
  generalize hAe : va_A [(t, .inr (12, [.null, .int 0]))] s.heap.size = A at hD hG ⊢
  have hA : ∀ q : Nat, s.heap.size ≤ q → A q := fun q h => by rw [← hAe]; exact Or.inr h
  have hS : va_S A s.heap s.heap [] := va_S.rf
  have hl := lv_entry ([.ref t]) (n := 1) (Nat.le_of_ble_eq_true rfl)
  rw [lg_entry_eq]
  generalize (lg_sl ([.ref t]) ++ List.replicate (1 - (lg_sl ([.ref t])).length) Slot.unset).toArray = ls at hl ⊢
  have hl : lv_has ls 1 [(0, .ref t)] := hl
  have hml3 := hts (Cond.methodLink RX10 3 objectInit) (by decide +kernel)
  have hoi := hts (Cond.instanceMethod objectInit) (by decide +kernel)
  have hoc := hts (Cond.code objectInit ⟨#[0xb1]⟩ 1 none) (by decide +kernel)
  have hnaint := hts (Cond.arrayClass (newarray.typeOf .int)) (by decide +kernel)
  have hf9 := hts (Cond.fieldLink RX10 9 "RunmergeOffice$Text" "bytes" "[I") (by decide +kernel)
  have hiX10 : ∀ w ∈ u_ws RX10 TX10 2, w ∈ wsX10_init := by decide +kernel
  have hf15 := hts (Cond.fieldLink RX10 15 "RunmergeOffice$Text" "size" "I") (by decide +kernel)
  refine lv_aload_n hx hb dX10_init_0 rfl (lv_at hl 0 rfl) ?_
  refine W.objInit hx hb hown hml3 hoi hoc rfl (by rw [hml]; exact hl.1) rfl dX10_init_1 (Nat.le_of_ble_eq_true rfl) (Nat.le_of_ble_eq_true rfl) ?_
  refine W.eq (g2 := F0 m 4 ls []) rfl ?_
  refine lv_aload_n hx hb dX10_init_4 rfl (lv_at hl 0 rfl) ?_
  refine lv_sipush (v := 160) hx hb dX10_init_5 (by decide) ?_
  refine va_newa (atype := .int) (a0 := (160, .inl (fun _ => 0))) hx hb hnaint rfl hK hP hD hS hA (fun _ => rfl) (by decide) (N' := 160) (by decide) (Nat.le_of_ble_eq_true rfl) (Nat.le_of_ble_eq_true rfl) (Nat.le_of_ble_eq_true rfl) dX10_init_8 (fun q_1 cA_3 H_2 hK9 hP hD hS => ?_)
  obtain rfl : g 0 = cA_3 := K_one hK9 0 6 rfl rfl
  have hP : va_P (dC, dI) vwCl [(t, .inr (12, [.null, .int 0])), (q_1, .inl (g 0, 160, .inl (fun _ => 0)))] H_2 := hP
  have hD : va_D A [(t, .inr (12, [.null, .int 0])), (q_1, .inl (g 0, 160, .inl (fun _ => 0)))] := hD
  refine W.widen (k := 1) (n := 160) (by omega) (by omega) ?_
  refine va_putF (D := (dC, dI)) (ci := 12) (v := .ref q_1) (ty := .array .int) (C := RX10) (T := TX10) (N := 2) hx hb hts hiX10 tyX10 tyX10_ok nmX10 hown hK hP hD hS 0 rfl rfl 0 (by decide) hf9 (fun _ h9 => h9) rfl hin rfl (by decide +kernel) rfl rfl (Nat.le_of_ble_eq_true rfl) dX10_init_10 (fun H_4 L_5 hP hD hS => ?_)
  have hP : va_P (dC, dI) vwCl [(t, .inr (12, [.ref q_1, .int 0])), (q_1, .inl (g 0, 160, .inl (fun _ => 0)))] H_4 := hP
  have hD : va_D A [(t, .inr (12, [.ref q_1, .int 0])), (q_1, .inl (g 0, 160, .inl (fun _ => 0)))] := hD
  refine lv_aload_n hx hb dX10_init_13 rfl (lv_at hl 0 rfl) ?_
  refine lv_iconst (v := 0) hx hb dX10_init_14 (by decide) ?_
  refine va_putS (D := (dC, dI)) (ci := 12) (v := .int 0) (ty := .int) (C := RX10) (T := TX10) (N := 2) hx hb hts hiX10 tyX10 tyX10_ok nmX10 hown hK hP hD hS 0 rfl rfl 1 (by decide) hf15 (fun _ h9 => h9) rfl (by decide +kernel) rfl rfl (Nat.le_of_ble_eq_true rfl) rfl dX10_init_15 (fun H_6 L_7 hP hS => ?_)
  have hP9 := hP.sub (ws' := [(t, .inr (12, [.ref q_1, .int 0])), (q_1, .inl (g 0, 160, .inl (fun _ => 0)))]) [0, 1] rfl
  have hD9 := hD.sub (ws' := [(t, .inr (12, [.ref q_1, .int 0])), (q_1, .inl (g 0, 160, .inl (fun _ => 0)))]) [0, 1] (by decide) rfl
  exact W.vret hx hb hr (fun t ht hW => ⟨⟨(fun j => ([q_1] : List Nat).getD j 0), rfl, trivial, ⟨P_at ht hP9, hD9⟩⟩, hS.F ht⟩) hS.2.2 dX10_init_18
set_option maxHeartbeats 4000000 in
set_option maxRecDepth 100000 in
theorem c_X4_init (l : Launch) (dC : Nat → ClassId) (dI : Nat → Nat → Nat) (g : Nat → ClassId) (t : Nat) (sz : Nat) : Met l yX4_init wsX4_init ({ frames := 2, cells := 5, slots := 612, locals := 32 }) (va_Pc [.ref t] (PG (dC, dI) g [(t, .inr (6, [.null, .null, .null, .int 0, .int 0, .int 0, .int 0, .int 0]))] sz)) (va_Qv (fun (_ : Nat → Nat) => True) (fun (u : Nat → Nat) t9 => va_P (dC, dI) vwCl [(t, .inr (6, [.ref (u 0), .ref (u 3), .ref (u 4), .int 0, .int 0, .int 0, .int 0, .int 0])), ((u 0), .inr (5, [.ref (u 1), .ref (u 2), .int 0, .int 2, .int 0, .int 0])), ((u 1), .inl (g 0, 200, .inl (fun _ => 0))), ((u 2), .inl (g 0, 6, .inl (fun _ => 0))), ((u 3), .inl (g 0, 200, .inl (fun _ => 0))), ((u 4), .inl (g 0, 200, .inl (fun _ => 0)))] t9.heap ∧ va_D (va_A [(t, .inr (6, [.null, .null, .null, .int 0, .int 0, .int 0, .int 0, .int 0]))] sz) [(t, .inr (6, [.ref (u 0), .ref (u 3), .ref (u 4), .int 0, .int 0, .int 0, .int 0, .int 0])), ((u 0), .inr (5, [.ref (u 1), .ref (u 2), .int 0, .int 2, .int 0, .int 0])), ((u 1), .inl (g 0, 200, .inl (fun _ => 0))), ((u 2), .inl (g 0, 6, .inl (fun _ => 0))), ((u 3), .inl (g 0, 200, .inl (fun _ => 0))), ((u 4), .inl (g 0, 200, .inl (fun _ => 0)))]) (va_A [(t, .inr (6, [.null, .null, .null, .int 0, .int 0, .int 0, .int 0, .int 0]))] sz)) 5 612 (va_A [(t, .inr (6, [.null, .null, .null, .int 0, .int 0, .int 0, .int 0, .int 0]))] sz) := by
  refine Met.ofW (cc := cX4_init) (maxL := 1) (ret := none) (by decide) rfl ?_
  intro p e s m args below meth c s₁ B hml hv
  obtain ⟨rfl, hsz, hP, hK, hD0, hG⟩ := hv
  have hx := B.exec
  have hb := B.bytes
  have hr := B.returns
  have hts := atoms_spec (ws := wsX4_init) B.pre
  have hown : s.vm.findClass RX4 = some m.cls := findClass_of_methodNamed B.named
  have hlocks := B.notSynchronized
  have hin : meth.name = "<init>" := (name_of_methodNamed B.named B.method).1
  subst hsz
  have hD := hD0.self (sz := s.heap.size)
  generalize hAe : va_A [(t, .inr (6, [.null, .null, .null, .int 0, .int 0, .int 0, .int 0, .int 0]))] s.heap.size = A at hD hG ⊢
  have hA : ∀ q : Nat, s.heap.size ≤ q → A q := fun q h => by rw [← hAe]; exact Or.inr h
  have hS : va_S A s.heap s.heap [] := va_S.rf
  have hl := lv_entry ([.ref t]) (n := 1) (Nat.le_of_ble_eq_true rfl)
  rw [lg_entry_eq]
  generalize (lg_sl ([.ref t]) ++ List.replicate (1 - (lg_sl ([.ref t])).length) Slot.unset).toArray = ls at hl ⊢
  have hl : lv_has ls 1 [(0, .ref t)] := hl
  have hml3 := hts (Cond.methodLink RX4 3 objectInit) (by decide +kernel)
  have hoi := hts (Cond.instanceMethod objectInit) (by decide +kernel)
  have hoc := hts (Cond.code objectInit ⟨#[0xb1]⟩ 1 none) (by decide +kernel)
  have hcl9 := hts (Cond.classLink RX4 9 RX3) (by decide +kernel)
  have hinX3 := hts (Cond.instantiable RX3 6) (by decide +kernel)
  have hiniX3 := hts (Cond.initialized RX3) (by decide +kernel)
  have hiX3 : ∀ w ∈ u_ws RX3 TX3 6, w ∈ wsX4_init := by decide +kernel
  have himX3_init := hts (Cond.instanceMethod yX3_init) (by decide +kernel)
  have hf12 := hts (Cond.fieldLink RX4 12 "RunmergeOffice$Plan" "pass" "LRunmergeOffice$Pass;") (by decide +kernel)
  have hiX4 : ∀ w ∈ u_ws RX4 TX4 8, w ∈ wsX4_init := by decide +kernel
  have hnaint := hts (Cond.arrayClass (newarray.typeOf .int)) (by decide +kernel)
  have hf18 := hts (Cond.fieldLink RX4 18 "RunmergeOffice$Plan" "lengths" "[I") (by decide +kernel)
  have hf22 := hts (Cond.fieldLink RX4 22 "RunmergeOffice$Plan" "newLengths" "[I") (by decide +kernel)
  have hf25 := hts (Cond.fieldLink RX4 25 "RunmergeOffice$Plan" "count" "I") (by decide +kernel)
  have hf29 := hts (Cond.fieldLink RX4 29 "RunmergeOffice$Plan" "newCount" "I") (by decide +kernel)
  have hf32 := hts (Cond.fieldLink RX4 32 "RunmergeOffice$Plan" "passes" "I") (by decide +kernel)
  have hf35 := hts (Cond.fieldLink RX4 35 "RunmergeOffice$Plan" "moves" "I") (by decide +kernel)
  have hf38 := hts (Cond.fieldLink RX4 38 "RunmergeOffice$Plan" "merges" "I") (by decide +kernel)
  refine lv_aload_n hx hb dX4_init_0 rfl (lv_at hl 0 rfl) ?_
  refine W.objInit hx hb hown hml3 hoi hoc rfl (by rw [hml]; exact hl.1) rfl dX4_init_1 (Nat.le_of_ble_eq_true rfl) (Nat.le_of_ble_eq_true rfl) ?_
  refine W.eq (g2 := F0 m 4 ls []) rfl ?_
  refine lv_aload_n hx hb dX4_init_4 rfl (lv_at hl 0 rfl) ?_
  refine va_new (ci := 5) (fs := [.null, .null, .int 0, .int 0, .int 0, .int 0]) (C := RX3) (T := TX3) (N := 6) hx hb hts hiX3 tyX3 tyX3_ok hown hcl9 hinX3 hiniX3 hK hP hD hS hA rfl (fun j hj => by rcases (show j = 0 ∨ j = 1 ∨ j = 2 ∨ j = 3 ∨ j = 4 ∨ j = 5 by omega) with rfl | rfl | rfl | rfl | rfl | rfl <;> rfl) (Nat.le_of_ble_eq_true rfl) (Nat.le_of_ble_eq_true rfl) dX4_init_5 (fun q_1 H_2 hP hD hS => ?_)
  have hP : va_P (dC, dI) vwCl [(t, .inr (6, [.null, .null, .null, .int 0, .int 0, .int 0, .int 0, .int 0])), (q_1, .inr (5, [.null, .null, .int 0, .int 0, .int 0, .int 0]))] H_2 := hP
  have hD : va_D A [(t, .inr (6, [.null, .null, .null, .int 0, .int 0, .int 0, .int 0, .int 0])), (q_1, .inr (5, [.null, .null, .int 0, .int 0, .int 0, .int 0]))] := hD
  refine W.widen (k := 1) (n := 6) (by omega) (by omega) ?_
  refine lv_dup hx hb dX4_init_8 rfl ?_
  have hPc := hP.sub (ws' := [(q_1, .inr (5, [.null, .null, .int 0, .int 0, .int 0, .int 0]))]) [1] rfl
  have hDc := hD.sub (ws' := [(q_1, .inr (5, [.null, .null, .int 0, .int 0, .int 0, .int 0]))]) [1] (by decide) rfl
  have hFc := va_free (wc := [(q_1, .inr (5, [.null, .null, .int 0, .int 0, .int 0, .int 0]))]) hD hS hA [1] rfl
  refine va_callv (va_runIN (As := []) (rest := [.ref q_1, .ref t]) ⟨hx, hb, hml, hown, hts⟩ (c_X3_init l dC dI g q_1  H_2.size) ⟨va_cnB 0 hts gX4_init_X3_init_n11 rfl rfl rfl (mnl_6 hG) hiniX3 (by decide +kernel) ⟨Nat.le_of_ble_eq_true rfl, Nat.le_of_ble_eq_true rfl⟩, rfl, himX3_init⟩ ⟨PG_blind, PG_call hK hG hS hPc hDc hFc⟩ rfl rfl hl.1 rfl (lv_room (Nat.le_of_ble_eq_true rfl)) dX4_init_9 ⟨Nat.le_of_ble_eq_true rfl, Nat.le_of_ble_eq_true rfl⟩) hS (fun q _ h => hFc q h) hFc (fun u_3 t_3 H_3 L_3 ht_3 hvm_3 hw_3 hB_3 hz_3 hk_3 hS => ?_)
  obtain ⟨hP1, hD1⟩ := hB_3
  rw [ht_3] at hP1
  obtain ⟨hP, hD⟩ := va_join (wr := [(t, .inr (6, [.null, .null, .null, .int 0, .int 0, .int 0, .int 0, .int 0]))]) (w1 := [(q_1, .inr (5, [.ref (u_3 0), .ref (u_3 1), .int 0, .int 2, .int 0, .int 0])), ((u_3 0), .inl (g 0, 200, .inl (fun _ => 0))), ((u_3 1), .inl (g 0, 6, .inl (fun _ => 0)))]) hP hD [1] [0] rfl rfl (by decide) (by decide) hk_3 hFc hP1 hD1
  have hP : va_P (dC, dI) vwCl [(t, .inr (6, [.null, .null, .null, .int 0, .int 0, .int 0, .int 0, .int 0])), (q_1, .inr (5, [.ref (u_3 0), .ref (u_3 1), .int 0, .int 2, .int 0, .int 0])), ((u_3 0), .inl (g 0, 200, .inl (fun _ => 0))), ((u_3 1), .inl (g 0, 6, .inl (fun _ => 0)))] H_3 := hP
  have hD : va_D A [(t, .inr (6, [.null, .null, .null, .int 0, .int 0, .int 0, .int 0, .int 0])), (q_1, .inr (5, [.ref (u_3 0), .ref (u_3 1), .int 0, .int 2, .int 0, .int 0])), ((u_3 0), .inl (g 0, 200, .inl (fun _ => 0))), ((u_3 1), .inl (g 0, 6, .inl (fun _ => 0)))] := hD
  refine W.widen (k := 3) (n := 212) (by omega) (by omega) ?_
  refine va_putF (D := (dC, dI)) (ci := 6) (v := .ref q_1) (ty := .object "RunmergeOffice$Pass") (C := RX4) (T := TX4) (N := 8) hx hb hts hiX4 tyX4 tyX4_ok nmX4 hown hK hP hD hS 0 rfl rfl 0 (by decide) hf12 (fun _ h9 => h9) rfl hin rfl (by decide +kernel) rfl rfl (Nat.le_of_ble_eq_true rfl) dX4_init_12 (fun H_4 L_5 hP hD hS => ?_)
  have hP : va_P (dC, dI) vwCl [(t, .inr (6, [.ref q_1, .null, .null, .int 0, .int 0, .int 0, .int 0, .int 0])), (q_1, .inr (5, [.ref (u_3 0), .ref (u_3 1), .int 0, .int 2, .int 0, .int 0])), ((u_3 0), .inl (g 0, 200, .inl (fun _ => 0))), ((u_3 1), .inl (g 0, 6, .inl (fun _ => 0)))] H_4 := hP
  have hD : va_D A [(t, .inr (6, [.ref q_1, .null, .null, .int 0, .int 0, .int 0, .int 0, .int 0])), (q_1, .inr (5, [.ref (u_3 0), .ref (u_3 1), .int 0, .int 2, .int 0, .int 0])), ((u_3 0), .inl (g 0, 200, .inl (fun _ => 0))), ((u_3 1), .inl (g 0, 6, .inl (fun _ => 0)))] := hD
  refine lv_aload_n hx hb dX4_init_15 rfl (lv_at hl 0 rfl) ?_
  refine lv_sipush (v := 200) hx hb dX4_init_16 (by decide) ?_
  refine va_newa (atype := .int) (a0 := (200, .inl (fun _ => 0))) hx hb hnaint rfl hK hP hD hS hA (fun _ => rfl) (by decide) (N' := 200) (by decide) (Nat.le_of_ble_eq_true rfl) (Nat.le_of_ble_eq_true rfl) (Nat.le_of_ble_eq_true rfl) dX4_init_19 (fun q_6 cA_8 H_7 hK9 hP hD hS => ?_)
  obtain rfl : g 0 = cA_8 := K_one hK9 0 6 rfl rfl
  have hP : va_P (dC, dI) vwCl [(t, .inr (6, [.ref q_1, .null, .null, .int 0, .int 0, .int 0, .int 0, .int 0])), (q_1, .inr (5, [.ref (u_3 0), .ref (u_3 1), .int 0, .int 2, .int 0, .int 0])), ((u_3 0), .inl (g 0, 200, .inl (fun _ => 0))), ((u_3 1), .inl (g 0, 6, .inl (fun _ => 0))), (q_6, .inl (g 0, 200, .inl (fun _ => 0)))] H_7 := hP
  have hD : va_D A [(t, .inr (6, [.ref q_1, .null, .null, .int 0, .int 0, .int 0, .int 0, .int 0])), (q_1, .inr (5, [.ref (u_3 0), .ref (u_3 1), .int 0, .int 2, .int 0, .int 0])), ((u_3 0), .inl (g 0, 200, .inl (fun _ => 0))), ((u_3 1), .inl (g 0, 6, .inl (fun _ => 0))), (q_6, .inl (g 0, 200, .inl (fun _ => 0)))] := hD
  refine W.widen (k := 4) (n := 412) (by omega) (by omega) ?_
  refine va_put (D := (dC, dI)) (ci := 6) (v := .ref q_6) (ty := .array .int) (C := RX4) (T := TX4) (N := 8) hx hb hts hiX4 tyX4 tyX4_ok nmX4 hown hK hP hD hS 0 rfl rfl 1 (by decide) hf18 (fun _ h9 => h9) rfl (by decide +kernel) rfl rfl (Nat.le_of_ble_eq_true rfl) dX4_init_21 (fun H_9 L_10 hP hD hS => ?_)
  have hP : va_P (dC, dI) vwCl [(t, .inr (6, [.ref q_1, .ref q_6, .null, .int 0, .int 0, .int 0, .int 0, .int 0])), (q_1, .inr (5, [.ref (u_3 0), .ref (u_3 1), .int 0, .int 2, .int 0, .int 0])), ((u_3 0), .inl (g 0, 200, .inl (fun _ => 0))), ((u_3 1), .inl (g 0, 6, .inl (fun _ => 0))), (q_6, .inl (g 0, 200, .inl (fun _ => 0)))] H_9 := hP
  have hD : va_D A [(t, .inr (6, [.ref q_1, .ref q_6, .null, .int 0, .int 0, .int 0, .int 0, .int 0])), (q_1, .inr (5, [.ref (u_3 0), .ref (u_3 1), .int 0, .int 2, .int 0, .int 0])), ((u_3 0), .inl (g 0, 200, .inl (fun _ => 0))), ((u_3 1), .inl (g 0, 6, .inl (fun _ => 0))), (q_6, .inl (g 0, 200, .inl (fun _ => 0)))] := hD
  refine lv_aload_n hx hb dX4_init_24 rfl (lv_at hl 0 rfl) ?_
  refine lv_sipush (v := 200) hx hb dX4_init_25 (by decide) ?_
  refine va_newa (atype := .int) (a0 := (200, .inl (fun _ => 0))) hx hb hnaint rfl hK hP hD hS hA (fun _ => rfl) (by decide) (N' := 200) (by decide) (Nat.le_of_ble_eq_true rfl) (Nat.le_of_ble_eq_true rfl) (Nat.le_of_ble_eq_true rfl) dX4_init_28 (fun q_11 cA_13 H_12 hK9 hP hD hS => ?_)
  obtain rfl : g 0 = cA_13 := K_one hK9 0 6 rfl rfl
  have hP : va_P (dC, dI) vwCl [(t, .inr (6, [.ref q_1, .ref q_6, .null, .int 0, .int 0, .int 0, .int 0, .int 0])), (q_1, .inr (5, [.ref (u_3 0), .ref (u_3 1), .int 0, .int 2, .int 0, .int 0])), ((u_3 0), .inl (g 0, 200, .inl (fun _ => 0))), ((u_3 1), .inl (g 0, 6, .inl (fun _ => 0))), (q_6, .inl (g 0, 200, .inl (fun _ => 0))), (q_11, .inl (g 0, 200, .inl (fun _ => 0)))] H_12 := hP
  have hD : va_D A [(t, .inr (6, [.ref q_1, .ref q_6, .null, .int 0, .int 0, .int 0, .int 0, .int 0])), (q_1, .inr (5, [.ref (u_3 0), .ref (u_3 1), .int 0, .int 2, .int 0, .int 0])), ((u_3 0), .inl (g 0, 200, .inl (fun _ => 0))), ((u_3 1), .inl (g 0, 6, .inl (fun _ => 0))), (q_6, .inl (g 0, 200, .inl (fun _ => 0))), (q_11, .inl (g 0, 200, .inl (fun _ => 0)))] := hD
  refine W.widen (k := 5) (n := 612) (by omega) (by omega) ?_
  refine va_put (D := (dC, dI)) (ci := 6) (v := .ref q_11) (ty := .array .int) (C := RX4) (T := TX4) (N := 8) hx hb hts hiX4 tyX4 tyX4_ok nmX4 hown hK hP hD hS 0 rfl rfl 2 (by decide) hf22 (fun _ h9 => h9) rfl (by decide +kernel) rfl rfl (Nat.le_of_ble_eq_true rfl) dX4_init_30 (fun H_14 L_15 hP hD hS => ?_)
  have hP : va_P (dC, dI) vwCl [(t, .inr (6, [.ref q_1, .ref q_6, .ref q_11, .int 0, .int 0, .int 0, .int 0, .int 0])), (q_1, .inr (5, [.ref (u_3 0), .ref (u_3 1), .int 0, .int 2, .int 0, .int 0])), ((u_3 0), .inl (g 0, 200, .inl (fun _ => 0))), ((u_3 1), .inl (g 0, 6, .inl (fun _ => 0))), (q_6, .inl (g 0, 200, .inl (fun _ => 0))), (q_11, .inl (g 0, 200, .inl (fun _ => 0)))] H_14 := hP
  have hD : va_D A [(t, .inr (6, [.ref q_1, .ref q_6, .ref q_11, .int 0, .int 0, .int 0, .int 0, .int 0])), (q_1, .inr (5, [.ref (u_3 0), .ref (u_3 1), .int 0, .int 2, .int 0, .int 0])), ((u_3 0), .inl (g 0, 200, .inl (fun _ => 0))), ((u_3 1), .inl (g 0, 6, .inl (fun _ => 0))), (q_6, .inl (g 0, 200, .inl (fun _ => 0))), (q_11, .inl (g 0, 200, .inl (fun _ => 0)))] := hD
  refine lv_aload_n hx hb dX4_init_33 rfl (lv_at hl 0 rfl) ?_
  refine lv_iconst (v := 0) hx hb dX4_init_34 (by decide) ?_
  refine va_putS (D := (dC, dI)) (ci := 6) (v := .int 0) (ty := .int) (C := RX4) (T := TX4) (N := 8) hx hb hts hiX4 tyX4 tyX4_ok nmX4 hown hK hP hD hS 0 rfl rfl 3 (by decide) hf25 (fun _ h9 => h9) rfl (by decide +kernel) rfl rfl (Nat.le_of_ble_eq_true rfl) rfl dX4_init_35 (fun H_16 L_17 hP hS => ?_)
  refine lv_aload_n hx hb dX4_init_38 rfl (lv_at hl 0 rfl) ?_
  refine lv_iconst (v := 0) hx hb dX4_init_39 (by decide) ?_
  refine va_putS (D := (dC, dI)) (ci := 6) (v := .int 0) (ty := .int) (C := RX4) (T := TX4) (N := 8) hx hb hts hiX4 tyX4 tyX4_ok nmX4 hown hK hP hD hS 0 rfl rfl 4 (by decide) hf29 (fun _ h9 => h9) rfl (by decide +kernel) rfl rfl (Nat.le_of_ble_eq_true rfl) rfl dX4_init_40 (fun H_18 L_19 hP hS => ?_)
  refine lv_aload_n hx hb dX4_init_43 rfl (lv_at hl 0 rfl) ?_
  refine lv_iconst (v := 0) hx hb dX4_init_44 (by decide) ?_
  refine va_putS (D := (dC, dI)) (ci := 6) (v := .int 0) (ty := .int) (C := RX4) (T := TX4) (N := 8) hx hb hts hiX4 tyX4 tyX4_ok nmX4 hown hK hP hD hS 0 rfl rfl 5 (by decide) hf32 (fun _ h9 => h9) rfl (by decide +kernel) rfl rfl (Nat.le_of_ble_eq_true rfl) rfl dX4_init_45 (fun H_20 L_21 hP hS => ?_)
  refine lv_aload_n hx hb dX4_init_48 rfl (lv_at hl 0 rfl) ?_
  refine lv_iconst (v := 0) hx hb dX4_init_49 (by decide) ?_
  refine va_putS (D := (dC, dI)) (ci := 6) (v := .int 0) (ty := .int) (C := RX4) (T := TX4) (N := 8) hx hb hts hiX4 tyX4 tyX4_ok nmX4 hown hK hP hD hS 0 rfl rfl 6 (by decide) hf35 (fun _ h9 => h9) rfl (by decide +kernel) rfl rfl (Nat.le_of_ble_eq_true rfl) rfl dX4_init_50 (fun H_22 L_23 hP hS => ?_)
  refine lv_aload_n hx hb dX4_init_53 rfl (lv_at hl 0 rfl) ?_
  refine lv_iconst (v := 0) hx hb dX4_init_54 (by decide) ?_
  refine va_putS (D := (dC, dI)) (ci := 6) (v := .int 0) (ty := .int) (C := RX4) (T := TX4) (N := 8) hx hb hts hiX4 tyX4 tyX4_ok nmX4 hown hK hP hD hS 0 rfl rfl 7 (by decide) hf38 (fun _ h9 => h9) rfl (by decide +kernel) rfl rfl (Nat.le_of_ble_eq_true rfl) rfl dX4_init_55 (fun H_24 L_25 hP hS => ?_)
  have hP9 := hP.sub (ws' := [(t, .inr (6, [.ref q_1, .ref q_6, .ref q_11, .int 0, .int 0, .int 0, .int 0, .int 0])), (q_1, .inr (5, [.ref (u_3 0), .ref (u_3 1), .int 0, .int 2, .int 0, .int 0])), ((u_3 0), .inl (g 0, 200, .inl (fun _ => 0))), ((u_3 1), .inl (g 0, 6, .inl (fun _ => 0))), (q_6, .inl (g 0, 200, .inl (fun _ => 0))), (q_11, .inl (g 0, 200, .inl (fun _ => 0)))]) [0, 1, 2, 3, 4, 5] rfl
  have hD9 := hD.sub (ws' := [(t, .inr (6, [.ref q_1, .ref q_6, .ref q_11, .int 0, .int 0, .int 0, .int 0, .int 0])), (q_1, .inr (5, [.ref (u_3 0), .ref (u_3 1), .int 0, .int 2, .int 0, .int 0])), ((u_3 0), .inl (g 0, 200, .inl (fun _ => 0))), ((u_3 1), .inl (g 0, 6, .inl (fun _ => 0))), (q_6, .inl (g 0, 200, .inl (fun _ => 0))), (q_11, .inl (g 0, 200, .inl (fun _ => 0)))]) [0, 1, 2, 3, 4, 5] (by decide) rfl
  exact W.vret hx hb hr (fun t ht hW => ⟨⟨(fun j => ([q_1, (u_3 0), (u_3 1), q_6, q_11] : List Nat).getD j 0), rfl, trivial, ⟨P_at ht hP9, hD9⟩⟩, hS.F ht⟩) hS.2.2 dX4_init_58
set_option maxHeartbeats 4000000 in
set_option maxRecDepth 100000 in
theorem c_X2_init (l : Launch) (dC : Nat → ClassId) (dI : Nat → Nat → Nat) (g : Nat → ClassId) (t : Nat) (sz : Nat) : Met l yX2_init wsX2_init ({ frames := 2, cells := 20, slots := 1842, locals := 32 }) (va_Pc [.ref t] (PG (dC, dI) g [(t, .inr (4, [.null, .null, .null, .null, .int 0, .null, .null, .null, .int 0, .int 0, .int 0, .int 0, .int 0, .int 0, .int 0]))] sz)) (va_Qv (fun (_ : Nat → Nat) => True) (fun (u : Nat → Nat) t9 => va_P (dC, dI) vwCl [(t, .inr (4, [.ref (u 0), .ref (u 3), .ref (u 6), .ref (u 7), .int 0, .ref (u 8), .ref (u 12), .ref (u 16), .int 0, .int 0, .int 0, .int 0, .int 0, .int 0, .int 0])), ((u 0), .inr (8, [.ref (u 1), .ref (u 2), .int 0])), ((u 1), .inl (g 0, 50, .inl (fun _ => 0))), ((u 2), .inl (g 0, 50, .inl (fun _ => 0))), ((u 3), .inr (5, [.ref (u 4), .ref (u 5), .int 0, .int 2, .int 0, .int 0])), ((u 4), .inl (g 0, 200, .inl (fun _ => 0))), ((u 5), .inl (g 0, 6, .inl (fun _ => 0))), ((u 6), .inl (g 0, 6, .inl (fun _ => 0))), ((u 7), .inl (g 0, 6, .inl (fun _ => 0))), ((u 8), .inr (9, [.ref (u 9), .ref (u 10), .ref (u 11), .int 0, .int 0])), ((u 9), .inl (g 0, 100, .inl (fun _ => 0))), ((u 10), .inl (g 0, 200, .inl (fun _ => 0))), ((u 11), .inl (g 0, 200, .inl (fun _ => 0))), ((u 12), .inr (9, [.ref (u 13), .ref (u 14), .ref (u 15), .int 0, .int 0])), ((u 13), .inl (g 0, 100, .inl (fun _ => 0))), ((u 14), .inl (g 0, 200, .inl (fun _ => 0))), ((u 15), .inl (g 0, 200, .inl (fun _ => 0))), ((u 16), .inr (9, [.ref (u 17), .ref (u 18), .ref (u 19), .int 0, .int 0])), ((u 17), .inl (g 0, 100, .inl (fun _ => 0))), ((u 18), .inl (g 0, 200, .inl (fun _ => 0))), ((u 19), .inl (g 0, 200, .inl (fun _ => 0)))] t9.heap ∧ va_D (va_A [(t, .inr (4, [.null, .null, .null, .null, .int 0, .null, .null, .null, .int 0, .int 0, .int 0, .int 0, .int 0, .int 0, .int 0]))] sz) [(t, .inr (4, [.ref (u 0), .ref (u 3), .ref (u 6), .ref (u 7), .int 0, .ref (u 8), .ref (u 12), .ref (u 16), .int 0, .int 0, .int 0, .int 0, .int 0, .int 0, .int 0])), ((u 0), .inr (8, [.ref (u 1), .ref (u 2), .int 0])), ((u 1), .inl (g 0, 50, .inl (fun _ => 0))), ((u 2), .inl (g 0, 50, .inl (fun _ => 0))), ((u 3), .inr (5, [.ref (u 4), .ref (u 5), .int 0, .int 2, .int 0, .int 0])), ((u 4), .inl (g 0, 200, .inl (fun _ => 0))), ((u 5), .inl (g 0, 6, .inl (fun _ => 0))), ((u 6), .inl (g 0, 6, .inl (fun _ => 0))), ((u 7), .inl (g 0, 6, .inl (fun _ => 0))), ((u 8), .inr (9, [.ref (u 9), .ref (u 10), .ref (u 11), .int 0, .int 0])), ((u 9), .inl (g 0, 100, .inl (fun _ => 0))), ((u 10), .inl (g 0, 200, .inl (fun _ => 0))), ((u 11), .inl (g 0, 200, .inl (fun _ => 0))), ((u 12), .inr (9, [.ref (u 13), .ref (u 14), .ref (u 15), .int 0, .int 0])), ((u 13), .inl (g 0, 100, .inl (fun _ => 0))), ((u 14), .inl (g 0, 200, .inl (fun _ => 0))), ((u 15), .inl (g 0, 200, .inl (fun _ => 0))), ((u 16), .inr (9, [.ref (u 17), .ref (u 18), .ref (u 19), .int 0, .int 0])), ((u 17), .inl (g 0, 100, .inl (fun _ => 0))), ((u 18), .inl (g 0, 200, .inl (fun _ => 0))), ((u 19), .inl (g 0, 200, .inl (fun _ => 0)))]) (va_A [(t, .inr (4, [.null, .null, .null, .null, .int 0, .null, .null, .null, .int 0, .int 0, .int 0, .int 0, .int 0, .int 0, .int 0]))] sz)) 20 1842 (va_A [(t, .inr (4, [.null, .null, .null, .null, .int 0, .null, .null, .null, .int 0, .int 0, .int 0, .int 0, .int 0, .int 0, .int 0]))] sz) := by
  refine Met.ofW (cc := cX2_init) (maxL := 1) (ret := none) (by decide) rfl ?_
  intro p e s m args below meth c s₁ B hml hv
  obtain ⟨rfl, hsz, hP, hK, hD0, hG⟩ := hv
  have hx := B.exec
  have hb := B.bytes
  have hr := B.returns
  have hts := atoms_spec (ws := wsX2_init) B.pre
  have hown : s.vm.findClass RX2 = some m.cls := findClass_of_methodNamed B.named
  have hlocks := B.notSynchronized
  have hin : meth.name = "<init>" := (name_of_methodNamed B.named B.method).1
  subst hsz
  have hD := hD0.self (sz := s.heap.size)
  generalize hAe : va_A [(t, .inr (4, [.null, .null, .null, .null, .int 0, .null, .null, .null, .int 0, .int 0, .int 0, .int 0, .int 0, .int 0, .int 0]))] s.heap.size = A at hD hG ⊢
  have hA : ∀ q : Nat, s.heap.size ≤ q → A q := fun q h => by rw [← hAe]; exact Or.inr h
  have hS : va_S A s.heap s.heap [] := va_S.rf
  have hl := lv_entry ([.ref t]) (n := 1) (Nat.le_of_ble_eq_true rfl)
  rw [lg_entry_eq]
  generalize (lg_sl ([.ref t]) ++ List.replicate (1 - (lg_sl ([.ref t])).length) Slot.unset).toArray = ls at hl ⊢
  have hl : lv_has ls 1 [(0, .ref t)] := hl
  have hml3 := hts (Cond.methodLink RX2 3 objectInit) (by decide +kernel)
  have hoi := hts (Cond.instanceMethod objectInit) (by decide +kernel)
  have hoc := hts (Cond.code objectInit ⟨#[0xb1]⟩ 1 none) (by decide +kernel)
  have hcl9 := hts (Cond.classLink RX2 9 RX6) (by decide +kernel)
  have hinX6 := hts (Cond.instantiable RX6 3) (by decide +kernel)
  have hiniX6 := hts (Cond.initialized RX6) (by decide +kernel)
  have hiX6 : ∀ w ∈ u_ws RX6 TX6 3, w ∈ wsX2_init := by decide +kernel
  have himX6_init := hts (Cond.instanceMethod yX6_init) (by decide +kernel)
  have hf12 := hts (Cond.fieldLink RX2 12 "RunmergeOffice$Job" "maker" "LRunmergeOffice$RunMaker;") (by decide +kernel)
  have hiX2 : ∀ w ∈ u_ws RX2 TX2 15, w ∈ wsX2_init := by decide +kernel
  have hcl18 := hts (Cond.classLink RX2 18 RX3) (by decide +kernel)
  have hinX3 := hts (Cond.instantiable RX3 6) (by decide +kernel)
  have hiniX3 := hts (Cond.initialized RX3) (by decide +kernel)
  have hiX3 : ∀ w ∈ u_ws RX3 TX3 6, w ∈ wsX2_init := by decide +kernel
  have himX3_init := hts (Cond.instanceMethod yX3_init) (by decide +kernel)
  have hf21 := hts (Cond.fieldLink RX2 21 "RunmergeOffice$Job" "pass" "LRunmergeOffice$Pass;") (by decide +kernel)
  have hnaint := hts (Cond.arrayClass (newarray.typeOf .int)) (by decide +kernel)
  have hf25 := hts (Cond.fieldLink RX2 25 "RunmergeOffice$Job" "inputs" "[I") (by decide +kernel)
  have hf29 := hts (Cond.fieldLink RX2 29 "RunmergeOffice$Job" "places" "[I") (by decide +kernel)
  have hf32 := hts (Cond.fieldLink RX2 32 "RunmergeOffice$Job" "inputCount" "I") (by decide +kernel)
  have hcl36 := hts (Cond.classLink RX2 36 RX7) (by decide +kernel)
  have hinX7 := hts (Cond.instantiable RX7 5) (by decide +kernel)
  have hiniX7 := hts (Cond.initialized RX7) (by decide +kernel)
  have hiX7 : ∀ w ∈ u_ws RX7 TX7 5, w ∈ wsX2_init := by decide +kernel
  have himX7_init := hts (Cond.instanceMethod yX7_init) (by decide +kernel)
  have hf39 := hts (Cond.fieldLink RX2 39 "RunmergeOffice$Job" "now" "LRunmergeOffice$RunRow;") (by decide +kernel)
  have hf43 := hts (Cond.fieldLink RX2 43 "RunmergeOffice$Job" "made" "LRunmergeOffice$RunRow;") (by decide +kernel)
  have hf46 := hts (Cond.fieldLink RX2 46 "RunmergeOffice$Job" "next" "LRunmergeOffice$RunRow;") (by decide +kernel)
  have hf49 := hts (Cond.fieldLink RX2 49 "RunmergeOffice$Job" "target" "I") (by decide +kernel)
  have hf52 := hts (Cond.fieldLink RX2 52 "RunmergeOffice$Job" "passes" "I") (by decide +kernel)
  have hf55 := hts (Cond.fieldLink RX2 55 "RunmergeOffice$Job" "merges" "I") (by decide +kernel)
  have hf58 := hts (Cond.fieldLink RX2 58 "RunmergeOffice$Job" "moves" "I") (by decide +kernel)
  have hf61 := hts (Cond.fieldLink RX2 61 "RunmergeOffice$Job" "movesOfPass" "I") (by decide +kernel)
  have hf64 := hts (Cond.fieldLink RX2 64 "RunmergeOffice$Job" "lostMoves" "I") (by decide +kernel)
  have hf67 := hts (Cond.fieldLink RX2 67 "RunmergeOffice$Job" "timesTorn" "I") (by decide +kernel)
  refine lv_aload_n hx hb dX2_init_0 rfl (lv_at hl 0 rfl) ?_
  refine W.objInit hx hb hown hml3 hoi hoc rfl (by rw [hml]; exact hl.1) rfl dX2_init_1 (Nat.le_of_ble_eq_true rfl) (Nat.le_of_ble_eq_true rfl) ?_
  refine W.eq (g2 := F0 m 4 ls []) rfl ?_
  refine lv_aload_n hx hb dX2_init_4 rfl (lv_at hl 0 rfl) ?_
  refine va_new (ci := 8) (fs := [.null, .null, .int 0]) (C := RX6) (T := TX6) (N := 3) hx hb hts hiX6 tyX6 tyX6_ok hown hcl9 hinX6 hiniX6 hK hP hD hS hA rfl (fun j hj => by rcases (show j = 0 ∨ j = 1 ∨ j = 2 by omega) with rfl | rfl | rfl <;> rfl) (Nat.le_of_ble_eq_true rfl) (Nat.le_of_ble_eq_true rfl) dX2_init_5 (fun q_1 H_2 hP hD hS => ?_)
  have hP : va_P (dC, dI) vwCl [(t, .inr (4, [.null, .null, .null, .null, .int 0, .null, .null, .null, .int 0, .int 0, .int 0, .int 0, .int 0, .int 0, .int 0])), (q_1, .inr (8, [.null, .null, .int 0]))] H_2 := hP
  have hD : va_D A [(t, .inr (4, [.null, .null, .null, .null, .int 0, .null, .null, .null, .int 0, .int 0, .int 0, .int 0, .int 0, .int 0, .int 0])), (q_1, .inr (8, [.null, .null, .int 0]))] := hD
  refine W.widen (k := 1) (n := 3) (by omega) (by omega) ?_
  refine lv_dup hx hb dX2_init_8 rfl ?_
  have hPc := hP.sub (ws' := [(q_1, .inr (8, [.null, .null, .int 0]))]) [1] rfl
  have hDc := hD.sub (ws' := [(q_1, .inr (8, [.null, .null, .int 0]))]) [1] (by decide) rfl
  have hFc := va_free (wc := [(q_1, .inr (8, [.null, .null, .int 0]))]) hD hS hA [1] rfl
  refine va_callv (va_runIN (As := []) (rest := [.ref q_1, .ref t]) ⟨hx, hb, hml, hown, hts⟩ (c_X6_init l dC dI g q_1  H_2.size) ⟨va_cnB 0 hts gX2_init_X6_init_n11 rfl rfl rfl (mnl_8 hG) hiniX6 (by decide +kernel) ⟨Nat.le_of_ble_eq_true rfl, Nat.le_of_ble_eq_true rfl⟩, rfl, himX6_init⟩ ⟨PG_blind, PG_call hK hG hS hPc hDc hFc⟩ rfl rfl hl.1 rfl (lv_room (Nat.le_of_ble_eq_true rfl)) dX2_init_9 ⟨Nat.le_of_ble_eq_true rfl, Nat.le_of_ble_eq_true rfl⟩) hS (fun q _ h => hFc q h) hFc (fun u_3 t_3 H_3 L_3 ht_3 hvm_3 hw_3 hB_3 hz_3 hk_3 hS => ?_)
  obtain ⟨hP1, hD1⟩ := hB_3
  rw [ht_3] at hP1
  obtain ⟨hP, hD⟩ := va_join (wr := [(t, .inr (4, [.null, .null, .null, .null, .int 0, .null, .null, .null, .int 0, .int 0, .int 0, .int 0, .int 0, .int 0, .int 0]))]) (w1 := [(q_1, .inr (8, [.ref (u_3 0), .ref (u_3 1), .int 0])), ((u_3 0), .inl (g 0, 50, .inl (fun _ => 0))), ((u_3 1), .inl (g 0, 50, .inl (fun _ => 0)))]) hP hD [1] [0] rfl rfl (by decide) (by decide) hk_3 hFc hP1 hD1
  have hP : va_P (dC, dI) vwCl [(t, .inr (4, [.null, .null, .null, .null, .int 0, .null, .null, .null, .int 0, .int 0, .int 0, .int 0, .int 0, .int 0, .int 0])), (q_1, .inr (8, [.ref (u_3 0), .ref (u_3 1), .int 0])), ((u_3 0), .inl (g 0, 50, .inl (fun _ => 0))), ((u_3 1), .inl (g 0, 50, .inl (fun _ => 0)))] H_3 := hP
  have hD : va_D A [(t, .inr (4, [.null, .null, .null, .null, .int 0, .null, .null, .null, .int 0, .int 0, .int 0, .int 0, .int 0, .int 0, .int 0])), (q_1, .inr (8, [.ref (u_3 0), .ref (u_3 1), .int 0])), ((u_3 0), .inl (g 0, 50, .inl (fun _ => 0))), ((u_3 1), .inl (g 0, 50, .inl (fun _ => 0)))] := hD
  refine W.widen (k := 3) (n := 103) (by omega) (by omega) ?_
  refine va_putF (D := (dC, dI)) (ci := 4) (v := .ref q_1) (ty := .object "RunmergeOffice$RunMaker") (C := RX2) (T := TX2) (N := 15) hx hb hts hiX2 tyX2 tyX2_ok nmX2 hown hK hP hD hS 0 rfl rfl 0 (by decide) hf12 (fun _ h9 => h9) rfl hin rfl (by decide +kernel) rfl rfl (Nat.le_of_ble_eq_true rfl) dX2_init_12 (fun H_4 L_5 hP hD hS => ?_)
  have hP : va_P (dC, dI) vwCl [(t, .inr (4, [.ref q_1, .null, .null, .null, .int 0, .null, .null, .null, .int 0, .int 0, .int 0, .int 0, .int 0, .int 0, .int 0])), (q_1, .inr (8, [.ref (u_3 0), .ref (u_3 1), .int 0])), ((u_3 0), .inl (g 0, 50, .inl (fun _ => 0))), ((u_3 1), .inl (g 0, 50, .inl (fun _ => 0)))] H_4 := hP
  have hD : va_D A [(t, .inr (4, [.ref q_1, .null, .null, .null, .int 0, .null, .null, .null, .int 0, .int 0, .int 0, .int 0, .int 0, .int 0, .int 0])), (q_1, .inr (8, [.ref (u_3 0), .ref (u_3 1), .int 0])), ((u_3 0), .inl (g 0, 50, .inl (fun _ => 0))), ((u_3 1), .inl (g 0, 50, .inl (fun _ => 0)))] := hD
  refine lv_aload_n hx hb dX2_init_15 rfl (lv_at hl 0 rfl) ?_
  refine va_new (ci := 5) (fs := [.null, .null, .int 0, .int 0, .int 0, .int 0]) (C := RX3) (T := TX3) (N := 6) hx hb hts hiX3 tyX3 tyX3_ok hown hcl18 hinX3 hiniX3 hK hP hD hS hA rfl (fun j hj => by rcases (show j = 0 ∨ j = 1 ∨ j = 2 ∨ j = 3 ∨ j = 4 ∨ j = 5 by omega) with rfl | rfl | rfl | rfl | rfl | rfl <;> rfl) (Nat.le_of_ble_eq_true rfl) (Nat.le_of_ble_eq_true rfl) dX2_init_16 (fun q_6 H_7 hP hD hS => ?_)
  have hP : va_P (dC, dI) vwCl [(t, .inr (4, [.ref q_1, .null, .null, .null, .int 0, .null, .null, .null, .int 0, .int 0, .int 0, .int 0, .int 0, .int 0, .int 0])), (q_1, .inr (8, [.ref (u_3 0), .ref (u_3 1), .int 0])), ((u_3 0), .inl (g 0, 50, .inl (fun _ => 0))), ((u_3 1), .inl (g 0, 50, .inl (fun _ => 0))), (q_6, .inr (5, [.null, .null, .int 0, .int 0, .int 0, .int 0]))] H_7 := hP
  have hD : va_D A [(t, .inr (4, [.ref q_1, .null, .null, .null, .int 0, .null, .null, .null, .int 0, .int 0, .int 0, .int 0, .int 0, .int 0, .int 0])), (q_1, .inr (8, [.ref (u_3 0), .ref (u_3 1), .int 0])), ((u_3 0), .inl (g 0, 50, .inl (fun _ => 0))), ((u_3 1), .inl (g 0, 50, .inl (fun _ => 0))), (q_6, .inr (5, [.null, .null, .int 0, .int 0, .int 0, .int 0]))] := hD
  refine W.widen (k := 4) (n := 109) (by omega) (by omega) ?_
  refine lv_dup hx hb dX2_init_19 rfl ?_
  have hPc := hP.sub (ws' := [(q_6, .inr (5, [.null, .null, .int 0, .int 0, .int 0, .int 0]))]) [4] rfl
  have hDc := hD.sub (ws' := [(q_6, .inr (5, [.null, .null, .int 0, .int 0, .int 0, .int 0]))]) [4] (by decide) rfl
  have hFc := va_free (wc := [(q_6, .inr (5, [.null, .null, .int 0, .int 0, .int 0, .int 0]))]) hD hS hA [4] rfl
  refine va_callv (va_runIN (As := []) (rest := [.ref q_6, .ref t]) ⟨hx, hb, hml, hown, hts⟩ (c_X3_init l dC dI g q_6  H_7.size) ⟨va_cnB 0 hts gX2_init_X3_init_n20 rfl rfl rfl (mnl_9 hG) hiniX3 (by decide +kernel) ⟨Nat.le_of_ble_eq_true rfl, Nat.le_of_ble_eq_true rfl⟩, rfl, himX3_init⟩ ⟨PG_blind, PG_call hK hG hS hPc hDc hFc⟩ rfl rfl hl.1 rfl (lv_room (Nat.le_of_ble_eq_true rfl)) dX2_init_20 ⟨Nat.le_of_ble_eq_true rfl, Nat.le_of_ble_eq_true rfl⟩) hS (fun q _ h => hFc q h) hFc (fun u_8 t_8 H_8 L_8 ht_8 hvm_8 hw_8 hB_8 hz_8 hk_8 hS => ?_)
  obtain ⟨hP1, hD1⟩ := hB_8
  rw [ht_8] at hP1
  obtain ⟨hP, hD⟩ := va_join (wr := [(t, .inr (4, [.ref q_1, .null, .null, .null, .int 0, .null, .null, .null, .int 0, .int 0, .int 0, .int 0, .int 0, .int 0, .int 0])), (q_1, .inr (8, [.ref (u_3 0), .ref (u_3 1), .int 0])), ((u_3 0), .inl (g 0, 50, .inl (fun _ => 0))), ((u_3 1), .inl (g 0, 50, .inl (fun _ => 0)))]) (w1 := [(q_6, .inr (5, [.ref (u_8 0), .ref (u_8 1), .int 0, .int 2, .int 0, .int 0])), ((u_8 0), .inl (g 0, 200, .inl (fun _ => 0))), ((u_8 1), .inl (g 0, 6, .inl (fun _ => 0)))]) hP hD [4] [0, 1, 2, 3] rfl rfl (by decide) (by decide) hk_8 hFc hP1 hD1
  have hP : va_P (dC, dI) vwCl [(t, .inr (4, [.ref q_1, .null, .null, .null, .int 0, .null, .null, .null, .int 0, .int 0, .int 0, .int 0, .int 0, .int 0, .int 0])), (q_1, .inr (8, [.ref (u_3 0), .ref (u_3 1), .int 0])), ((u_3 0), .inl (g 0, 50, .inl (fun _ => 0))), ((u_3 1), .inl (g 0, 50, .inl (fun _ => 0))), (q_6, .inr (5, [.ref (u_8 0), .ref (u_8 1), .int 0, .int 2, .int 0, .int 0])), ((u_8 0), .inl (g 0, 200, .inl (fun _ => 0))), ((u_8 1), .inl (g 0, 6, .inl (fun _ => 0)))] H_8 := hP
  have hD : va_D A [(t, .inr (4, [.ref q_1, .null, .null, .null, .int 0, .null, .null, .null, .int 0, .int 0, .int 0, .int 0, .int 0, .int 0, .int 0])), (q_1, .inr (8, [.ref (u_3 0), .ref (u_3 1), .int 0])), ((u_3 0), .inl (g 0, 50, .inl (fun _ => 0))), ((u_3 1), .inl (g 0, 50, .inl (fun _ => 0))), (q_6, .inr (5, [.ref (u_8 0), .ref (u_8 1), .int 0, .int 2, .int 0, .int 0])), ((u_8 0), .inl (g 0, 200, .inl (fun _ => 0))), ((u_8 1), .inl (g 0, 6, .inl (fun _ => 0)))] := hD
  refine W.widen (k := 6) (n := 315) (by omega) (by omega) ?_
  refine va_putF (D := (dC, dI)) (ci := 4) (v := .ref q_6) (ty := .object "RunmergeOffice$Pass") (C := RX2) (T := TX2) (N := 15) hx hb hts hiX2 tyX2 tyX2_ok nmX2 hown hK hP hD hS 0 rfl rfl 1 (by decide) hf21 (fun _ h9 => h9) rfl hin rfl (by decide +kernel) rfl rfl (Nat.le_of_ble_eq_true rfl) dX2_init_23 (fun H_9 L_10 hP hD hS => ?_)
  have hP : va_P (dC, dI) vwCl [(t, .inr (4, [.ref q_1, .ref q_6, .null, .null, .int 0, .null, .null, .null, .int 0, .int 0, .int 0, .int 0, .int 0, .int 0, .int 0])), (q_1, .inr (8, [.ref (u_3 0), .ref (u_3 1), .int 0])), ((u_3 0), .inl (g 0, 50, .inl (fun _ => 0))), ((u_3 1), .inl (g 0, 50, .inl (fun _ => 0))), (q_6, .inr (5, [.ref (u_8 0), .ref (u_8 1), .int 0, .int 2, .int 0, .int 0])), ((u_8 0), .inl (g 0, 200, .inl (fun _ => 0))), ((u_8 1), .inl (g 0, 6, .inl (fun _ => 0)))] H_9 := hP
  have hD : va_D A [(t, .inr (4, [.ref q_1, .ref q_6, .null, .null, .int 0, .null, .null, .null, .int 0, .int 0, .int 0, .int 0, .int 0, .int 0, .int 0])), (q_1, .inr (8, [.ref (u_3 0), .ref (u_3 1), .int 0])), ((u_3 0), .inl (g 0, 50, .inl (fun _ => 0))), ((u_3 1), .inl (g 0, 50, .inl (fun _ => 0))), (q_6, .inr (5, [.ref (u_8 0), .ref (u_8 1), .int 0, .int 2, .int 0, .int 0])), ((u_8 0), .inl (g 0, 200, .inl (fun _ => 0))), ((u_8 1), .inl (g 0, 6, .inl (fun _ => 0)))] := hD
  refine lv_aload_n hx hb dX2_init_26 rfl (lv_at hl 0 rfl) ?_
  refine lv_bipush (v := 6) hx hb dX2_init_27 (by decide) ?_
  refine va_newa (atype := .int) (a0 := (6, .inl (fun _ => 0))) hx hb hnaint rfl hK hP hD hS hA (fun _ => rfl) (by decide) (N' := 6) (by decide) (Nat.le_of_ble_eq_true rfl) (Nat.le_of_ble_eq_true rfl) (Nat.le_of_ble_eq_true rfl) dX2_init_29 (fun q_11 cA_13 H_12 hK9 hP hD hS => ?_)
  obtain rfl : g 0 = cA_13 := K_one hK9 0 6 rfl rfl
  have hP : va_P (dC, dI) vwCl [(t, .inr (4, [.ref q_1, .ref q_6, .null, .null, .int 0, .null, .null, .null, .int 0, .int 0, .int 0, .int 0, .int 0, .int 0, .int 0])), (q_1, .inr (8, [.ref (u_3 0), .ref (u_3 1), .int 0])), ((u_3 0), .inl (g 0, 50, .inl (fun _ => 0))), ((u_3 1), .inl (g 0, 50, .inl (fun _ => 0))), (q_6, .inr (5, [.ref (u_8 0), .ref (u_8 1), .int 0, .int 2, .int 0, .int 0])), ((u_8 0), .inl (g 0, 200, .inl (fun _ => 0))), ((u_8 1), .inl (g 0, 6, .inl (fun _ => 0))), (q_11, .inl (g 0, 6, .inl (fun _ => 0)))] H_12 := hP
  have hD : va_D A [(t, .inr (4, [.ref q_1, .ref q_6, .null, .null, .int 0, .null, .null, .null, .int 0, .int 0, .int 0, .int 0, .int 0, .int 0, .int 0])), (q_1, .inr (8, [.ref (u_3 0), .ref (u_3 1), .int 0])), ((u_3 0), .inl (g 0, 50, .inl (fun _ => 0))), ((u_3 1), .inl (g 0, 50, .inl (fun _ => 0))), (q_6, .inr (5, [.ref (u_8 0), .ref (u_8 1), .int 0, .int 2, .int 0, .int 0])), ((u_8 0), .inl (g 0, 200, .inl (fun _ => 0))), ((u_8 1), .inl (g 0, 6, .inl (fun _ => 0))), (q_11, .inl (g 0, 6, .inl (fun _ => 0)))] := hD
  refine W.widen (k := 7) (n := 321) (by omega) (by omega) ?_
  refine va_putF (D := (dC, dI)) (ci := 4) (v := .ref q_11) (ty := .array .int) (C := RX2) (T := TX2) (N := 15) hx hb hts hiX2 tyX2 tyX2_ok nmX2 hown hK hP hD hS 0 rfl rfl 2 (by decide) hf25 (fun _ h9 => h9) rfl hin rfl (by decide +kernel) rfl rfl (Nat.le_of_ble_eq_true rfl) dX2_init_31 (fun H_14 L_15 hP hD hS => ?_)
  have hP : va_P (dC, dI) vwCl [(t, .inr (4, [.ref q_1, .ref q_6, .ref q_11, .null, .int 0, .null, .null, .null, .int 0, .int 0, .int 0, .int 0, .int 0, .int 0, .int 0])), (q_1, .inr (8, [.ref (u_3 0), .ref (u_3 1), .int 0])), ((u_3 0), .inl (g 0, 50, .inl (fun _ => 0))), ((u_3 1), .inl (g 0, 50, .inl (fun _ => 0))), (q_6, .inr (5, [.ref (u_8 0), .ref (u_8 1), .int 0, .int 2, .int 0, .int 0])), ((u_8 0), .inl (g 0, 200, .inl (fun _ => 0))), ((u_8 1), .inl (g 0, 6, .inl (fun _ => 0))), (q_11, .inl (g 0, 6, .inl (fun _ => 0)))] H_14 := hP
  have hD : va_D A [(t, .inr (4, [.ref q_1, .ref q_6, .ref q_11, .null, .int 0, .null, .null, .null, .int 0, .int 0, .int 0, .int 0, .int 0, .int 0, .int 0])), (q_1, .inr (8, [.ref (u_3 0), .ref (u_3 1), .int 0])), ((u_3 0), .inl (g 0, 50, .inl (fun _ => 0))), ((u_3 1), .inl (g 0, 50, .inl (fun _ => 0))), (q_6, .inr (5, [.ref (u_8 0), .ref (u_8 1), .int 0, .int 2, .int 0, .int 0])), ((u_8 0), .inl (g 0, 200, .inl (fun _ => 0))), ((u_8 1), .inl (g 0, 6, .inl (fun _ => 0))), (q_11, .inl (g 0, 6, .inl (fun _ => 0)))] := hD
  refine lv_aload_n hx hb dX2_init_34 rfl (lv_at hl 0 rfl) ?_
  refine lv_bipush (v := 6) hx hb dX2_init_35 (by decide) ?_
  refine va_newa (atype := .int) (a0 := (6, .inl (fun _ => 0))) hx hb hnaint rfl hK hP hD hS hA (fun _ => rfl) (by decide) (N' := 6) (by decide) (Nat.le_of_ble_eq_true rfl) (Nat.le_of_ble_eq_true rfl) (Nat.le_of_ble_eq_true rfl) dX2_init_37 (fun q_16 cA_18 H_17 hK9 hP hD hS => ?_)
  obtain rfl : g 0 = cA_18 := K_one hK9 0 6 rfl rfl
  have hP : va_P (dC, dI) vwCl [(t, .inr (4, [.ref q_1, .ref q_6, .ref q_11, .null, .int 0, .null, .null, .null, .int 0, .int 0, .int 0, .int 0, .int 0, .int 0, .int 0])), (q_1, .inr (8, [.ref (u_3 0), .ref (u_3 1), .int 0])), ((u_3 0), .inl (g 0, 50, .inl (fun _ => 0))), ((u_3 1), .inl (g 0, 50, .inl (fun _ => 0))), (q_6, .inr (5, [.ref (u_8 0), .ref (u_8 1), .int 0, .int 2, .int 0, .int 0])), ((u_8 0), .inl (g 0, 200, .inl (fun _ => 0))), ((u_8 1), .inl (g 0, 6, .inl (fun _ => 0))), (q_11, .inl (g 0, 6, .inl (fun _ => 0))), (q_16, .inl (g 0, 6, .inl (fun _ => 0)))] H_17 := hP
  have hD : va_D A [(t, .inr (4, [.ref q_1, .ref q_6, .ref q_11, .null, .int 0, .null, .null, .null, .int 0, .int 0, .int 0, .int 0, .int 0, .int 0, .int 0])), (q_1, .inr (8, [.ref (u_3 0), .ref (u_3 1), .int 0])), ((u_3 0), .inl (g 0, 50, .inl (fun _ => 0))), ((u_3 1), .inl (g 0, 50, .inl (fun _ => 0))), (q_6, .inr (5, [.ref (u_8 0), .ref (u_8 1), .int 0, .int 2, .int 0, .int 0])), ((u_8 0), .inl (g 0, 200, .inl (fun _ => 0))), ((u_8 1), .inl (g 0, 6, .inl (fun _ => 0))), (q_11, .inl (g 0, 6, .inl (fun _ => 0))), (q_16, .inl (g 0, 6, .inl (fun _ => 0)))] := hD
  refine W.widen (k := 8) (n := 327) (by omega) (by omega) ?_
  refine va_putF (D := (dC, dI)) (ci := 4) (v := .ref q_16) (ty := .array .int) (C := RX2) (T := TX2) (N := 15) hx hb hts hiX2 tyX2 tyX2_ok nmX2 hown hK hP hD hS 0 rfl rfl 3 (by decide) hf29 (fun _ h9 => h9) rfl hin rfl (by decide +kernel) rfl rfl (Nat.le_of_ble_eq_true rfl) dX2_init_39 (fun H_19 L_20 hP hD hS => ?_)
  have hP : va_P (dC, dI) vwCl [(t, .inr (4, [.ref q_1, .ref q_6, .ref q_11, .ref q_16, .int 0, .null, .null, .null, .int 0, .int 0, .int 0, .int 0, .int 0, .int 0, .int 0])), (q_1, .inr (8, [.ref (u_3 0), .ref (u_3 1), .int 0])), ((u_3 0), .inl (g 0, 50, .inl (fun _ => 0))), ((u_3 1), .inl (g 0, 50, .inl (fun _ => 0))), (q_6, .inr (5, [.ref (u_8 0), .ref (u_8 1), .int 0, .int 2, .int 0, .int 0])), ((u_8 0), .inl (g 0, 200, .inl (fun _ => 0))), ((u_8 1), .inl (g 0, 6, .inl (fun _ => 0))), (q_11, .inl (g 0, 6, .inl (fun _ => 0))), (q_16, .inl (g 0, 6, .inl (fun _ => 0)))] H_19 := hP
  have hD : va_D A [(t, .inr (4, [.ref q_1, .ref q_6, .ref q_11, .ref q_16, .int 0, .null, .null, .null, .int 0, .int 0, .int 0, .int 0, .int 0, .int 0, .int 0])), (q_1, .inr (8, [.ref (u_3 0), .ref (u_3 1), .int 0])), ((u_3 0), .inl (g 0, 50, .inl (fun _ => 0))), ((u_3 1), .inl (g 0, 50, .inl (fun _ => 0))), (q_6, .inr (5, [.ref (u_8 0), .ref (u_8 1), .int 0, .int 2, .int 0, .int 0])), ((u_8 0), .inl (g 0, 200, .inl (fun _ => 0))), ((u_8 1), .inl (g 0, 6, .inl (fun _ => 0))), (q_11, .inl (g 0, 6, .inl (fun _ => 0))), (q_16, .inl (g 0, 6, .inl (fun _ => 0)))] := hD
  refine lv_aload_n hx hb dX2_init_42 rfl (lv_at hl 0 rfl) ?_
  refine lv_iconst (v := 0) hx hb dX2_init_43 (by decide) ?_
  refine va_putS (D := (dC, dI)) (ci := 4) (v := .int 0) (ty := .int) (C := RX2) (T := TX2) (N := 15) hx hb hts hiX2 tyX2 tyX2_ok nmX2 hown hK hP hD hS 0 rfl rfl 4 (by decide) hf32 (fun _ h9 => h9) rfl (by decide +kernel) rfl rfl (Nat.le_of_ble_eq_true rfl) rfl dX2_init_44 (fun H_21 L_22 hP hS => ?_)
  refine lv_aload_n hx hb dX2_init_47 rfl (lv_at hl 0 rfl) ?_
  refine va_new (ci := 9) (fs := [.null, .null, .null, .int 0, .int 0]) (C := RX7) (T := TX7) (N := 5) hx hb hts hiX7 tyX7 tyX7_ok hown hcl36 hinX7 hiniX7 hK hP hD hS hA rfl (fun j hj => by rcases (show j = 0 ∨ j = 1 ∨ j = 2 ∨ j = 3 ∨ j = 4 by omega) with rfl | rfl | rfl | rfl | rfl <;> rfl) (Nat.le_of_ble_eq_true rfl) (Nat.le_of_ble_eq_true rfl) dX2_init_48 (fun q_23 H_24 hP hD hS => ?_)
  have hP : va_P (dC, dI) vwCl [(t, .inr (4, [.ref q_1, .ref q_6, .ref q_11, .ref q_16, .int 0, .null, .null, .null, .int 0, .int 0, .int 0, .int 0, .int 0, .int 0, .int 0])), (q_1, .inr (8, [.ref (u_3 0), .ref (u_3 1), .int 0])), ((u_3 0), .inl (g 0, 50, .inl (fun _ => 0))), ((u_3 1), .inl (g 0, 50, .inl (fun _ => 0))), (q_6, .inr (5, [.ref (u_8 0), .ref (u_8 1), .int 0, .int 2, .int 0, .int 0])), ((u_8 0), .inl (g 0, 200, .inl (fun _ => 0))), ((u_8 1), .inl (g 0, 6, .inl (fun _ => 0))), (q_11, .inl (g 0, 6, .inl (fun _ => 0))), (q_16, .inl (g 0, 6, .inl (fun _ => 0))), (q_23, .inr (9, [.null, .null, .null, .int 0, .int 0]))] H_24 := hP
  have hD : va_D A [(t, .inr (4, [.ref q_1, .ref q_6, .ref q_11, .ref q_16, .int 0, .null, .null, .null, .int 0, .int 0, .int 0, .int 0, .int 0, .int 0, .int 0])), (q_1, .inr (8, [.ref (u_3 0), .ref (u_3 1), .int 0])), ((u_3 0), .inl (g 0, 50, .inl (fun _ => 0))), ((u_3 1), .inl (g 0, 50, .inl (fun _ => 0))), (q_6, .inr (5, [.ref (u_8 0), .ref (u_8 1), .int 0, .int 2, .int 0, .int 0])), ((u_8 0), .inl (g 0, 200, .inl (fun _ => 0))), ((u_8 1), .inl (g 0, 6, .inl (fun _ => 0))), (q_11, .inl (g 0, 6, .inl (fun _ => 0))), (q_16, .inl (g 0, 6, .inl (fun _ => 0))), (q_23, .inr (9, [.null, .null, .null, .int 0, .int 0]))] := hD
  refine W.widen (k := 9) (n := 332) (by omega) (by omega) ?_
  refine lv_dup hx hb dX2_init_51 rfl ?_
  have hPc := hP.sub (ws' := [(q_23, .inr (9, [.null, .null, .null, .int 0, .int 0]))]) [9] rfl
  have hDc := hD.sub (ws' := [(q_23, .inr (9, [.null, .null, .null, .int 0, .int 0]))]) [9] (by decide) rfl
  have hFc := va_free (wc := [(q_23, .inr (9, [.null, .null, .null, .int 0, .int 0]))]) hD hS hA [9] rfl
  refine va_callv (va_runIN (As := []) (rest := [.ref q_23, .ref t]) ⟨hx, hb, hml, hown, hts⟩ (c_X7_init l dC dI g q_23  H_24.size) ⟨va_cnB 0 hts gX2_init_X7_init_n38 rfl rfl rfl (mnl_10 hG) hiniX7 (by decide +kernel) ⟨Nat.le_of_ble_eq_true rfl, Nat.le_of_ble_eq_true rfl⟩, rfl, himX7_init⟩ ⟨PG_blind, PG_call hK hG hS hPc hDc hFc⟩ rfl rfl hl.1 rfl (lv_room (Nat.le_of_ble_eq_true rfl)) dX2_init_52 ⟨Nat.le_of_ble_eq_true rfl, Nat.le_of_ble_eq_true rfl⟩) hS (fun q _ h => hFc q h) hFc (fun u_25 t_25 H_25 L_25 ht_25 hvm_25 hw_25 hB_25 hz_25 hk_25 hS => ?_)
  obtain ⟨hP1, hD1⟩ := hB_25
  rw [ht_25] at hP1
  obtain ⟨hP, hD⟩ := va_join (wr := [(t, .inr (4, [.ref q_1, .ref q_6, .ref q_11, .ref q_16, .int 0, .null, .null, .null, .int 0, .int 0, .int 0, .int 0, .int 0, .int 0, .int 0])), (q_1, .inr (8, [.ref (u_3 0), .ref (u_3 1), .int 0])), ((u_3 0), .inl (g 0, 50, .inl (fun _ => 0))), ((u_3 1), .inl (g 0, 50, .inl (fun _ => 0))), (q_6, .inr (5, [.ref (u_8 0), .ref (u_8 1), .int 0, .int 2, .int 0, .int 0])), ((u_8 0), .inl (g 0, 200, .inl (fun _ => 0))), ((u_8 1), .inl (g 0, 6, .inl (fun _ => 0))), (q_11, .inl (g 0, 6, .inl (fun _ => 0))), (q_16, .inl (g 0, 6, .inl (fun _ => 0)))]) (w1 := [(q_23, .inr (9, [.ref (u_25 0), .ref (u_25 1), .ref (u_25 2), .int 0, .int 0])), ((u_25 0), .inl (g 0, 100, .inl (fun _ => 0))), ((u_25 1), .inl (g 0, 200, .inl (fun _ => 0))), ((u_25 2), .inl (g 0, 200, .inl (fun _ => 0)))]) hP hD [9] [0, 1, 2, 3, 4, 5, 6, 7, 8] rfl rfl (by decide) (by decide) hk_25 hFc hP1 hD1
  have hP : va_P (dC, dI) vwCl [(t, .inr (4, [.ref q_1, .ref q_6, .ref q_11, .ref q_16, .int 0, .null, .null, .null, .int 0, .int 0, .int 0, .int 0, .int 0, .int 0, .int 0])), (q_1, .inr (8, [.ref (u_3 0), .ref (u_3 1), .int 0])), ((u_3 0), .inl (g 0, 50, .inl (fun _ => 0))), ((u_3 1), .inl (g 0, 50, .inl (fun _ => 0))), (q_6, .inr (5, [.ref (u_8 0), .ref (u_8 1), .int 0, .int 2, .int 0, .int 0])), ((u_8 0), .inl (g 0, 200, .inl (fun _ => 0))), ((u_8 1), .inl (g 0, 6, .inl (fun _ => 0))), (q_11, .inl (g 0, 6, .inl (fun _ => 0))), (q_16, .inl (g 0, 6, .inl (fun _ => 0))), (q_23, .inr (9, [.ref (u_25 0), .ref (u_25 1), .ref (u_25 2), .int 0, .int 0])), ((u_25 0), .inl (g 0, 100, .inl (fun _ => 0))), ((u_25 1), .inl (g 0, 200, .inl (fun _ => 0))), ((u_25 2), .inl (g 0, 200, .inl (fun _ => 0)))] H_25 := hP
  have hD : va_D A [(t, .inr (4, [.ref q_1, .ref q_6, .ref q_11, .ref q_16, .int 0, .null, .null, .null, .int 0, .int 0, .int 0, .int 0, .int 0, .int 0, .int 0])), (q_1, .inr (8, [.ref (u_3 0), .ref (u_3 1), .int 0])), ((u_3 0), .inl (g 0, 50, .inl (fun _ => 0))), ((u_3 1), .inl (g 0, 50, .inl (fun _ => 0))), (q_6, .inr (5, [.ref (u_8 0), .ref (u_8 1), .int 0, .int 2, .int 0, .int 0])), ((u_8 0), .inl (g 0, 200, .inl (fun _ => 0))), ((u_8 1), .inl (g 0, 6, .inl (fun _ => 0))), (q_11, .inl (g 0, 6, .inl (fun _ => 0))), (q_16, .inl (g 0, 6, .inl (fun _ => 0))), (q_23, .inr (9, [.ref (u_25 0), .ref (u_25 1), .ref (u_25 2), .int 0, .int 0])), ((u_25 0), .inl (g 0, 100, .inl (fun _ => 0))), ((u_25 1), .inl (g 0, 200, .inl (fun _ => 0))), ((u_25 2), .inl (g 0, 200, .inl (fun _ => 0)))] := hD
  refine W.widen (k := 12) (n := 832) (by omega) (by omega) ?_
  refine va_put (D := (dC, dI)) (ci := 4) (v := .ref q_23) (ty := .object "RunmergeOffice$RunRow") (C := RX2) (T := TX2) (N := 15) hx hb hts hiX2 tyX2 tyX2_ok nmX2 hown hK hP hD hS 0 rfl rfl 5 (by decide) hf39 (fun _ h9 => h9) rfl (by decide +kernel) rfl rfl (Nat.le_of_ble_eq_true rfl) dX2_init_55 (fun H_26 L_27 hP hD hS => ?_)
  have hP : va_P (dC, dI) vwCl [(t, .inr (4, [.ref q_1, .ref q_6, .ref q_11, .ref q_16, .int 0, .ref q_23, .null, .null, .int 0, .int 0, .int 0, .int 0, .int 0, .int 0, .int 0])), (q_1, .inr (8, [.ref (u_3 0), .ref (u_3 1), .int 0])), ((u_3 0), .inl (g 0, 50, .inl (fun _ => 0))), ((u_3 1), .inl (g 0, 50, .inl (fun _ => 0))), (q_6, .inr (5, [.ref (u_8 0), .ref (u_8 1), .int 0, .int 2, .int 0, .int 0])), ((u_8 0), .inl (g 0, 200, .inl (fun _ => 0))), ((u_8 1), .inl (g 0, 6, .inl (fun _ => 0))), (q_11, .inl (g 0, 6, .inl (fun _ => 0))), (q_16, .inl (g 0, 6, .inl (fun _ => 0))), (q_23, .inr (9, [.ref (u_25 0), .ref (u_25 1), .ref (u_25 2), .int 0, .int 0])), ((u_25 0), .inl (g 0, 100, .inl (fun _ => 0))), ((u_25 1), .inl (g 0, 200, .inl (fun _ => 0))), ((u_25 2), .inl (g 0, 200, .inl (fun _ => 0)))] H_26 := hP
  have hD : va_D A [(t, .inr (4, [.ref q_1, .ref q_6, .ref q_11, .ref q_16, .int 0, .ref q_23, .null, .null, .int 0, .int 0, .int 0, .int 0, .int 0, .int 0, .int 0])), (q_1, .inr (8, [.ref (u_3 0), .ref (u_3 1), .int 0])), ((u_3 0), .inl (g 0, 50, .inl (fun _ => 0))), ((u_3 1), .inl (g 0, 50, .inl (fun _ => 0))), (q_6, .inr (5, [.ref (u_8 0), .ref (u_8 1), .int 0, .int 2, .int 0, .int 0])), ((u_8 0), .inl (g 0, 200, .inl (fun _ => 0))), ((u_8 1), .inl (g 0, 6, .inl (fun _ => 0))), (q_11, .inl (g 0, 6, .inl (fun _ => 0))), (q_16, .inl (g 0, 6, .inl (fun _ => 0))), (q_23, .inr (9, [.ref (u_25 0), .ref (u_25 1), .ref (u_25 2), .int 0, .int 0])), ((u_25 0), .inl (g 0, 100, .inl (fun _ => 0))), ((u_25 1), .inl (g 0, 200, .inl (fun _ => 0))), ((u_25 2), .inl (g 0, 200, .inl (fun _ => 0)))] := hD
  refine lv_aload_n hx hb dX2_init_58 rfl (lv_at hl 0 rfl) ?_
  refine va_new (ci := 9) (fs := [.null, .null, .null, .int 0, .int 0]) (C := RX7) (T := TX7) (N := 5) hx hb hts hiX7 tyX7 tyX7_ok hown hcl36 hinX7 hiniX7 hK hP hD hS hA rfl (fun j hj => by rcases (show j = 0 ∨ j = 1 ∨ j = 2 ∨ j = 3 ∨ j = 4 by omega) with rfl | rfl | rfl | rfl | rfl <;> rfl) (Nat.le_of_ble_eq_true rfl) (Nat.le_of_ble_eq_true rfl) dX2_init_59 (fun q_28 H_29 hP hD hS => ?_)
  have hP : va_P (dC, dI) vwCl [(t, .inr (4, [.ref q_1, .ref q_6, .ref q_11, .ref q_16, .int 0, .ref q_23, .null, .null, .int 0, .int 0, .int 0, .int 0, .int 0, .int 0, .int 0])), (q_1, .inr (8, [.ref (u_3 0), .ref (u_3 1), .int 0])), ((u_3 0), .inl (g 0, 50, .inl (fun _ => 0))), ((u_3 1), .inl (g 0, 50, .inl (fun _ => 0))), (q_6, .inr (5, [.ref (u_8 0), .ref (u_8 1), .int 0, .int 2, .int 0, .int 0])), ((u_8 0), .inl (g 0, 200, .inl (fun _ => 0))), ((u_8 1), .inl (g 0, 6, .inl (fun _ => 0))), (q_11, .inl (g 0, 6, .inl (fun _ => 0))), (q_16, .inl (g 0, 6, .inl (fun _ => 0))), (q_23, .inr (9, [.ref (u_25 0), .ref (u_25 1), .ref (u_25 2), .int 0, .int 0])), ((u_25 0), .inl (g 0, 100, .inl (fun _ => 0))), ((u_25 1), .inl (g 0, 200, .inl (fun _ => 0))), ((u_25 2), .inl (g 0, 200, .inl (fun _ => 0))), (q_28, .inr (9, [.null, .null, .null, .int 0, .int 0]))] H_29 := hP
  have hD : va_D A [(t, .inr (4, [.ref q_1, .ref q_6, .ref q_11, .ref q_16, .int 0, .ref q_23, .null, .null, .int 0, .int 0, .int 0, .int 0, .int 0, .int 0, .int 0])), (q_1, .inr (8, [.ref (u_3 0), .ref (u_3 1), .int 0])), ((u_3 0), .inl (g 0, 50, .inl (fun _ => 0))), ((u_3 1), .inl (g 0, 50, .inl (fun _ => 0))), (q_6, .inr (5, [.ref (u_8 0), .ref (u_8 1), .int 0, .int 2, .int 0, .int 0])), ((u_8 0), .inl (g 0, 200, .inl (fun _ => 0))), ((u_8 1), .inl (g 0, 6, .inl (fun _ => 0))), (q_11, .inl (g 0, 6, .inl (fun _ => 0))), (q_16, .inl (g 0, 6, .inl (fun _ => 0))), (q_23, .inr (9, [.ref (u_25 0), .ref (u_25 1), .ref (u_25 2), .int 0, .int 0])), ((u_25 0), .inl (g 0, 100, .inl (fun _ => 0))), ((u_25 1), .inl (g 0, 200, .inl (fun _ => 0))), ((u_25 2), .inl (g 0, 200, .inl (fun _ => 0))), (q_28, .inr (9, [.null, .null, .null, .int 0, .int 0]))] := hD
  refine W.widen (k := 13) (n := 837) (by omega) (by omega) ?_
  refine lv_dup hx hb dX2_init_62 rfl ?_
  have hPc := hP.sub (ws' := [(q_28, .inr (9, [.null, .null, .null, .int 0, .int 0]))]) [13] rfl
  have hDc := hD.sub (ws' := [(q_28, .inr (9, [.null, .null, .null, .int 0, .int 0]))]) [13] (by decide) rfl
  have hFc := va_free (wc := [(q_28, .inr (9, [.null, .null, .null, .int 0, .int 0]))]) hD hS hA [13] rfl
  refine va_callv (va_runIN (As := []) (rest := [.ref q_28, .ref t]) ⟨hx, hb, hml, hown, hts⟩ (c_X7_init l dC dI g q_28  H_29.size) ⟨va_cnB 0 hts gX2_init_X7_init_n38 rfl rfl rfl (mnl_10 hG) hiniX7 (by decide +kernel) ⟨Nat.le_of_ble_eq_true rfl, Nat.le_of_ble_eq_true rfl⟩, rfl, himX7_init⟩ ⟨PG_blind, PG_call hK hG hS hPc hDc hFc⟩ rfl rfl hl.1 rfl (lv_room (Nat.le_of_ble_eq_true rfl)) dX2_init_63 ⟨Nat.le_of_ble_eq_true rfl, Nat.le_of_ble_eq_true rfl⟩) hS (fun q _ h => hFc q h) hFc (fun u_30 t_30 H_30 L_30 ht_30 hvm_30 hw_30 hB_30 hz_30 hk_30 hS => ?_)
  obtain ⟨hP1, hD1⟩ := hB_30
  rw [ht_30] at hP1
  obtain ⟨hP, hD⟩ := va_join (wr := [(t, .inr (4, [.ref q_1, .ref q_6, .ref q_11, .ref q_16, .int 0, .ref q_23, .null, .null, .int 0, .int 0, .int 0, .int 0, .int 0, .int 0, .int 0])), (q_1, .inr (8, [.ref (u_3 0), .ref (u_3 1), .int 0])), ((u_3 0), .inl (g 0, 50, .inl (fun _ => 0))), ((u_3 1), .inl (g 0, 50, .inl (fun _ => 0))), (q_6, .inr (5, [.ref (u_8 0), .ref (u_8 1), .int 0, .int 2, .int 0, .int 0])), ((u_8 0), .inl (g 0, 200, .inl (fun _ => 0))), ((u_8 1), .inl (g 0, 6, .inl (fun _ => 0))), (q_11, .inl (g 0, 6, .inl (fun _ => 0))), (q_16, .inl (g 0, 6, .inl (fun _ => 0))), (q_23, .inr (9, [.ref (u_25 0), .ref (u_25 1), .ref (u_25 2), .int 0, .int 0])), ((u_25 0), .inl (g 0, 100, .inl (fun _ => 0))), ((u_25 1), .inl (g 0, 200, .inl (fun _ => 0))), ((u_25 2), .inl (g 0, 200, .inl (fun _ => 0)))]) (w1 := [(q_28, .inr (9, [.ref (u_30 0), .ref (u_30 1), .ref (u_30 2), .int 0, .int 0])), ((u_30 0), .inl (g 0, 100, .inl (fun _ => 0))), ((u_30 1), .inl (g 0, 200, .inl (fun _ => 0))), ((u_30 2), .inl (g 0, 200, .inl (fun _ => 0)))]) hP hD [13] [0, 1, 2, 3, 4, 5, 6, 7, 8, 9, 10, 11, 12] rfl rfl (by decide) (by decide) hk_30 hFc hP1 hD1
  have hP : va_P (dC, dI) vwCl [(t, .inr (4, [.ref q_1, .ref q_6, .ref q_11, .ref q_16, .int 0, .ref q_23, .null, .null, .int 0, .int 0, .int 0, .int 0, .int 0, .int 0, .int 0])), (q_1, .inr (8, [.ref (u_3 0), .ref (u_3 1), .int 0])), ((u_3 0), .inl (g 0, 50, .inl (fun _ => 0))), ((u_3 1), .inl (g 0, 50, .inl (fun _ => 0))), (q_6, .inr (5, [.ref (u_8 0), .ref (u_8 1), .int 0, .int 2, .int 0, .int 0])), ((u_8 0), .inl (g 0, 200, .inl (fun _ => 0))), ((u_8 1), .inl (g 0, 6, .inl (fun _ => 0))), (q_11, .inl (g 0, 6, .inl (fun _ => 0))), (q_16, .inl (g 0, 6, .inl (fun _ => 0))), (q_23, .inr (9, [.ref (u_25 0), .ref (u_25 1), .ref (u_25 2), .int 0, .int 0])), ((u_25 0), .inl (g 0, 100, .inl (fun _ => 0))), ((u_25 1), .inl (g 0, 200, .inl (fun _ => 0))), ((u_25 2), .inl (g 0, 200, .inl (fun _ => 0))), (q_28, .inr (9, [.ref (u_30 0), .ref (u_30 1), .ref (u_30 2), .int 0, .int 0])), ((u_30 0), .inl (g 0, 100, .inl (fun _ => 0))), ((u_30 1), .inl (g 0, 200, .inl (fun _ => 0))), ((u_30 2), .inl (g 0, 200, .inl (fun _ => 0)))] H_30 := hP
  have hD : va_D A [(t, .inr (4, [.ref q_1, .ref q_6, .ref q_11, .ref q_16, .int 0, .ref q_23, .null, .null, .int 0, .int 0, .int 0, .int 0, .int 0, .int 0, .int 0])), (q_1, .inr (8, [.ref (u_3 0), .ref (u_3 1), .int 0])), ((u_3 0), .inl (g 0, 50, .inl (fun _ => 0))), ((u_3 1), .inl (g 0, 50, .inl (fun _ => 0))), (q_6, .inr (5, [.ref (u_8 0), .ref (u_8 1), .int 0, .int 2, .int 0, .int 0])), ((u_8 0), .inl (g 0, 200, .inl (fun _ => 0))), ((u_8 1), .inl (g 0, 6, .inl (fun _ => 0))), (q_11, .inl (g 0, 6, .inl (fun _ => 0))), (q_16, .inl (g 0, 6, .inl (fun _ => 0))), (q_23, .inr (9, [.ref (u_25 0), .ref (u_25 1), .ref (u_25 2), .int 0, .int 0])), ((u_25 0), .inl (g 0, 100, .inl (fun _ => 0))), ((u_25 1), .inl (g 0, 200, .inl (fun _ => 0))), ((u_25 2), .inl (g 0, 200, .inl (fun _ => 0))), (q_28, .inr (9, [.ref (u_30 0), .ref (u_30 1), .ref (u_30 2), .int 0, .int 0])), ((u_30 0), .inl (g 0, 100, .inl (fun _ => 0))), ((u_30 1), .inl (g 0, 200, .inl (fun _ => 0))), ((u_30 2), .inl (g 0, 200, .inl (fun _ => 0)))] := hD
  refine W.widen (k := 16) (n := 1337) (by omega) (by omega) ?_
  refine va_putF (D := (dC, dI)) (ci := 4) (v := .ref q_28) (ty := .object "RunmergeOffice$RunRow") (C := RX2) (T := TX2) (N := 15) hx hb hts hiX2 tyX2 tyX2_ok nmX2 hown hK hP hD hS 0 rfl rfl 6 (by decide) hf43 (fun _ h9 => h9) rfl hin rfl (by decide +kernel) rfl rfl (Nat.le_of_ble_eq_true rfl) dX2_init_66 (fun H_31 L_32 hP hD hS => ?_)
  have hP : va_P (dC, dI) vwCl [(t, .inr (4, [.ref q_1, .ref q_6, .ref q_11, .ref q_16, .int 0, .ref q_23, .ref q_28, .null, .int 0, .int 0, .int 0, .int 0, .int 0, .int 0, .int 0])), (q_1, .inr (8, [.ref (u_3 0), .ref (u_3 1), .int 0])), ((u_3 0), .inl (g 0, 50, .inl (fun _ => 0))), ((u_3 1), .inl (g 0, 50, .inl (fun _ => 0))), (q_6, .inr (5, [.ref (u_8 0), .ref (u_8 1), .int 0, .int 2, .int 0, .int 0])), ((u_8 0), .inl (g 0, 200, .inl (fun _ => 0))), ((u_8 1), .inl (g 0, 6, .inl (fun _ => 0))), (q_11, .inl (g 0, 6, .inl (fun _ => 0))), (q_16, .inl (g 0, 6, .inl (fun _ => 0))), (q_23, .inr (9, [.ref (u_25 0), .ref (u_25 1), .ref (u_25 2), .int 0, .int 0])), ((u_25 0), .inl (g 0, 100, .inl (fun _ => 0))), ((u_25 1), .inl (g 0, 200, .inl (fun _ => 0))), ((u_25 2), .inl (g 0, 200, .inl (fun _ => 0))), (q_28, .inr (9, [.ref (u_30 0), .ref (u_30 1), .ref (u_30 2), .int 0, .int 0])), ((u_30 0), .inl (g 0, 100, .inl (fun _ => 0))), ((u_30 1), .inl (g 0, 200, .inl (fun _ => 0))), ((u_30 2), .inl (g 0, 200, .inl (fun _ => 0)))] H_31 := hP
  have hD : va_D A [(t, .inr (4, [.ref q_1, .ref q_6, .ref q_11, .ref q_16, .int 0, .ref q_23, .ref q_28, .null, .int 0, .int 0, .int 0, .int 0, .int 0, .int 0, .int 0])), (q_1, .inr (8, [.ref (u_3 0), .ref (u_3 1), .int 0])), ((u_3 0), .inl (g 0, 50, .inl (fun _ => 0))), ((u_3 1), .inl (g 0, 50, .inl (fun _ => 0))), (q_6, .inr (5, [.ref (u_8 0), .ref (u_8 1), .int 0, .int 2, .int 0, .int 0])), ((u_8 0), .inl (g 0, 200, .inl (fun _ => 0))), ((u_8 1), .inl (g 0, 6, .inl (fun _ => 0))), (q_11, .inl (g 0, 6, .inl (fun _ => 0))), (q_16, .inl (g 0, 6, .inl (fun _ => 0))), (q_23, .inr (9, [.ref (u_25 0), .ref (u_25 1), .ref (u_25 2), .int 0, .int 0])), ((u_25 0), .inl (g 0, 100, .inl (fun _ => 0))), ((u_25 1), .inl (g 0, 200, .inl (fun _ => 0))), ((u_25 2), .inl (g 0, 200, .inl (fun _ => 0))), (q_28, .inr (9, [.ref (u_30 0), .ref (u_30 1), .ref (u_30 2), .int 0, .int 0])), ((u_30 0), .inl (g 0, 100, .inl (fun _ => 0))), ((u_30 1), .inl (g 0, 200, .inl (fun _ => 0))), ((u_30 2), .inl (g 0, 200, .inl (fun _ => 0)))] := hD
  refine lv_aload_n hx hb dX2_init_69 rfl (lv_at hl 0 rfl) ?_
  refine va_new (ci := 9) (fs := [.null, .null, .null, .int 0, .int 0]) (C := RX7) (T := TX7) (N := 5) hx hb hts hiX7 tyX7 tyX7_ok hown hcl36 hinX7 hiniX7 hK hP hD hS hA rfl (fun j hj => by rcases (show j = 0 ∨ j = 1 ∨ j = 2 ∨ j = 3 ∨ j = 4 by omega) with rfl | rfl | rfl | rfl | rfl <;> rfl) (Nat.le_of_ble_eq_true rfl) (Nat.le_of_ble_eq_true rfl) dX2_init_70 (fun q_33 H_34 hP hD hS => ?_)
  have hP : va_P (dC, dI) vwCl [(t, .inr (4, [.ref q_1, .ref q_6, .ref q_11, .ref q_16, .int 0, .ref q_23, .ref q_28, .null, .int 0, .int 0, .int 0, .int 0, .int 0, .int 0, .int 0])), (q_1, .inr (8, [.ref (u_3 0), .ref (u_3 1), .int 0])), ((u_3 0), .inl (g 0, 50, .inl (fun _ => 0))), ((u_3 1), .inl (g 0, 50, .inl (fun _ => 0))), (q_6, .inr (5, [.ref (u_8 0), .ref (u_8 1), .int 0, .int 2, .int 0, .int 0])), ((u_8 0), .inl (g 0, 200, .inl (fun _ => 0))), ((u_8 1), .inl (g 0, 6, .inl (fun _ => 0))), (q_11, .inl (g 0, 6, .inl (fun _ => 0))), (q_16, .inl (g 0, 6, .inl (fun _ => 0))), (q_23, .inr (9, [.ref (u_25 0), .ref (u_25 1), .ref (u_25 2), .int 0, .int 0])), ((u_25 0), .inl (g 0, 100, .inl (fun _ => 0))), ((u_25 1), .inl (g 0, 200, .inl (fun _ => 0))), ((u_25 2), .inl (g 0, 200, .inl (fun _ => 0))), (q_28, .inr (9, [.ref (u_30 0), .ref (u_30 1), .ref (u_30 2), .int 0, .int 0])), ((u_30 0), .inl (g 0, 100, .inl (fun _ => 0))), ((u_30 1), .inl (g 0, 200, .inl (fun _ => 0))), ((u_30 2), .inl (g 0, 200, .inl (fun _ => 0))), (q_33, .inr (9, [.null, .null, .null, .int 0, .int 0]))] H_34 := hP
  have hD : va_D A [(t, .inr (4, [.ref q_1, .ref q_6, .ref q_11, .ref q_16, .int 0, .ref q_23, .ref q_28, .null, .int 0, .int 0, .int 0, .int 0, .int 0, .int 0, .int 0])), (q_1, .inr (8, [.ref (u_3 0), .ref (u_3 1), .int 0])), ((u_3 0), .inl (g 0, 50, .inl (fun _ => 0))), ((u_3 1), .inl (g 0, 50, .inl (fun _ => 0))), (q_6, .inr (5, [.ref (u_8 0), .ref (u_8 1), .int 0, .int 2, .int 0, .int 0])), ((u_8 0), .inl (g 0, 200, .inl (fun _ => 0))), ((u_8 1), .inl (g 0, 6, .inl (fun _ => 0))), (q_11, .inl (g 0, 6, .inl (fun _ => 0))), (q_16, .inl (g 0, 6, .inl (fun _ => 0))), (q_23, .inr (9, [.ref (u_25 0), .ref (u_25 1), .ref (u_25 2), .int 0, .int 0])), ((u_25 0), .inl (g 0, 100, .inl (fun _ => 0))), ((u_25 1), .inl (g 0, 200, .inl (fun _ => 0))), ((u_25 2), .inl (g 0, 200, .inl (fun _ => 0))), (q_28, .inr (9, [.ref (u_30 0), .ref (u_30 1), .ref (u_30 2), .int 0, .int 0])), ((u_30 0), .inl (g 0, 100, .inl (fun _ => 0))), ((u_30 1), .inl (g 0, 200, .inl (fun _ => 0))), ((u_30 2), .inl (g 0, 200, .inl (fun _ => 0))), (q_33, .inr (9, [.null, .null, .null, .int 0, .int 0]))] := hD
  refine W.widen (k := 17) (n := 1342) (by omega) (by omega) ?_
  refine lv_dup hx hb dX2_init_73 rfl ?_
  have hPc := hP.sub (ws' := [(q_33, .inr (9, [.null, .null, .null, .int 0, .int 0]))]) [17] rfl
  have hDc := hD.sub (ws' := [(q_33, .inr (9, [.null, .null, .null, .int 0, .int 0]))]) [17] (by decide) rfl
  have hFc := va_free (wc := [(q_33, .inr (9, [.null, .null, .null, .int 0, .int 0]))]) hD hS hA [17] rfl
  refine va_callv (va_runIN (As := []) (rest := [.ref q_33, .ref t]) ⟨hx, hb, hml, hown, hts⟩ (c_X7_init l dC dI g q_33  H_34.size) ⟨va_cnB 0 hts gX2_init_X7_init_n38 rfl rfl rfl (mnl_10 hG) hiniX7 (by decide +kernel) ⟨Nat.le_of_ble_eq_true rfl, Nat.le_of_ble_eq_true rfl⟩, rfl, himX7_init⟩ ⟨PG_blind, PG_call hK hG hS hPc hDc hFc⟩ rfl rfl hl.1 rfl (lv_room (Nat.le_of_ble_eq_true rfl)) dX2_init_74 ⟨Nat.le_of_ble_eq_true rfl, Nat.le_of_ble_eq_true rfl⟩) hS (fun q _ h => hFc q h) hFc (fun u_35 t_35 H_35 L_35 ht_35 hvm_35 hw_35 hB_35 hz_35 hk_35 hS => ?_)
  obtain ⟨hP1, hD1⟩ := hB_35
  rw [ht_35] at hP1
  obtain ⟨hP, hD⟩ := va_join (wr := [(t, .inr (4, [.ref q_1, .ref q_6, .ref q_11, .ref q_16, .int 0, .ref q_23, .ref q_28, .null, .int 0, .int 0, .int 0, .int 0, .int 0, .int 0, .int 0])), (q_1, .inr (8, [.ref (u_3 0), .ref (u_3 1), .int 0])), ((u_3 0), .inl (g 0, 50, .inl (fun _ => 0))), ((u_3 1), .inl (g 0, 50, .inl (fun _ => 0))), (q_6, .inr (5, [.ref (u_8 0), .ref (u_8 1), .int 0, .int 2, .int 0, .int 0])), ((u_8 0), .inl (g 0, 200, .inl (fun _ => 0))), ((u_8 1), .inl (g 0, 6, .inl (fun _ => 0))), (q_11, .inl (g 0, 6, .inl (fun _ => 0))), (q_16, .inl (g 0, 6, .inl (fun _ => 0))), (q_23, .inr (9, [.ref (u_25 0), .ref (u_25 1), .ref (u_25 2), .int 0, .int 0])), ((u_25 0), .inl (g 0, 100, .inl (fun _ => 0))), ((u_25 1), .inl (g 0, 200, .inl (fun _ => 0))), ((u_25 2), .inl (g 0, 200, .inl (fun _ => 0))), (q_28, .inr (9, [.ref (u_30 0), .ref (u_30 1), .ref (u_30 2), .int 0, .int 0])), ((u_30 0), .inl (g 0, 100, .inl (fun _ => 0))), ((u_30 1), .inl (g 0, 200, .inl (fun _ => 0))), ((u_30 2), .inl (g 0, 200, .inl (fun _ => 0)))]) (w1 := [(q_33, .inr (9, [.ref (u_35 0), .ref (u_35 1), .ref (u_35 2), .int 0, .int 0])), ((u_35 0), .inl (g 0, 100, .inl (fun _ => 0))), ((u_35 1), .inl (g 0, 200, .inl (fun _ => 0))), ((u_35 2), .inl (g 0, 200, .inl (fun _ => 0)))]) hP hD [17] [0, 1, 2, 3, 4, 5, 6, 7, 8, 9, 10, 11, 12, 13, 14, 15, 16] rfl rfl (by decide) (by decide) hk_35 hFc hP1 hD1
  have hP : va_P (dC, dI) vwCl [(t, .inr (4, [.ref q_1, .ref q_6, .ref q_11, .ref q_16, .int 0, .ref q_23, .ref q_28, .null, .int 0, .int 0, .int 0, .int 0, .int 0, .int 0, .int 0])), (q_1, .inr (8, [.ref (u_3 0), .ref (u_3 1), .int 0])), ((u_3 0), .inl (g 0, 50, .inl (fun _ => 0))), ((u_3 1), .inl (g 0, 50, .inl (fun _ => 0))), (q_6, .inr (5, [.ref (u_8 0), .ref (u_8 1), .int 0, .int 2, .int 0, .int 0])), ((u_8 0), .inl (g 0, 200, .inl (fun _ => 0))), ((u_8 1), .inl (g 0, 6, .inl (fun _ => 0))), (q_11, .inl (g 0, 6, .inl (fun _ => 0))), (q_16, .inl (g 0, 6, .inl (fun _ => 0))), (q_23, .inr (9, [.ref (u_25 0), .ref (u_25 1), .ref (u_25 2), .int 0, .int 0])), ((u_25 0), .inl (g 0, 100, .inl (fun _ => 0))), ((u_25 1), .inl (g 0, 200, .inl (fun _ => 0))), ((u_25 2), .inl (g 0, 200, .inl (fun _ => 0))), (q_28, .inr (9, [.ref (u_30 0), .ref (u_30 1), .ref (u_30 2), .int 0, .int 0])), ((u_30 0), .inl (g 0, 100, .inl (fun _ => 0))), ((u_30 1), .inl (g 0, 200, .inl (fun _ => 0))), ((u_30 2), .inl (g 0, 200, .inl (fun _ => 0))), (q_33, .inr (9, [.ref (u_35 0), .ref (u_35 1), .ref (u_35 2), .int 0, .int 0])), ((u_35 0), .inl (g 0, 100, .inl (fun _ => 0))), ((u_35 1), .inl (g 0, 200, .inl (fun _ => 0))), ((u_35 2), .inl (g 0, 200, .inl (fun _ => 0)))] H_35 := hP
  have hD : va_D A [(t, .inr (4, [.ref q_1, .ref q_6, .ref q_11, .ref q_16, .int 0, .ref q_23, .ref q_28, .null, .int 0, .int 0, .int 0, .int 0, .int 0, .int 0, .int 0])), (q_1, .inr (8, [.ref (u_3 0), .ref (u_3 1), .int 0])), ((u_3 0), .inl (g 0, 50, .inl (fun _ => 0))), ((u_3 1), .inl (g 0, 50, .inl (fun _ => 0))), (q_6, .inr (5, [.ref (u_8 0), .ref (u_8 1), .int 0, .int 2, .int 0, .int 0])), ((u_8 0), .inl (g 0, 200, .inl (fun _ => 0))), ((u_8 1), .inl (g 0, 6, .inl (fun _ => 0))), (q_11, .inl (g 0, 6, .inl (fun _ => 0))), (q_16, .inl (g 0, 6, .inl (fun _ => 0))), (q_23, .inr (9, [.ref (u_25 0), .ref (u_25 1), .ref (u_25 2), .int 0, .int 0])), ((u_25 0), .inl (g 0, 100, .inl (fun _ => 0))), ((u_25 1), .inl (g 0, 200, .inl (fun _ => 0))), ((u_25 2), .inl (g 0, 200, .inl (fun _ => 0))), (q_28, .inr (9, [.ref (u_30 0), .ref (u_30 1), .ref (u_30 2), .int 0, .int 0])), ((u_30 0), .inl (g 0, 100, .inl (fun _ => 0))), ((u_30 1), .inl (g 0, 200, .inl (fun _ => 0))), ((u_30 2), .inl (g 0, 200, .inl (fun _ => 0))), (q_33, .inr (9, [.ref (u_35 0), .ref (u_35 1), .ref (u_35 2), .int 0, .int 0])), ((u_35 0), .inl (g 0, 100, .inl (fun _ => 0))), ((u_35 1), .inl (g 0, 200, .inl (fun _ => 0))), ((u_35 2), .inl (g 0, 200, .inl (fun _ => 0)))] := hD
  refine W.widen (k := 20) (n := 1842) (by omega) (by omega) ?_
  refine va_put (D := (dC, dI)) (ci := 4) (v := .ref q_33) (ty := .object "RunmergeOffice$RunRow") (C := RX2) (T := TX2) (N := 15) hx hb hts hiX2 tyX2 tyX2_ok nmX2 hown hK hP hD hS 0 rfl rfl 7 (by decide) hf46 (fun _ h9 => h9) rfl (by decide +kernel) rfl rfl (Nat.le_of_ble_eq_true rfl) dX2_init_77 (fun H_36 L_37 hP hD hS => ?_)
  have hP : va_P (dC, dI) vwCl [(t, .inr (4, [.ref q_1, .ref q_6, .ref q_11, .ref q_16, .int 0, .ref q_23, .ref q_28, .ref q_33, .int 0, .int 0, .int 0, .int 0, .int 0, .int 0, .int 0])), (q_1, .inr (8, [.ref (u_3 0), .ref (u_3 1), .int 0])), ((u_3 0), .inl (g 0, 50, .inl (fun _ => 0))), ((u_3 1), .inl (g 0, 50, .inl (fun _ => 0))), (q_6, .inr (5, [.ref (u_8 0), .ref (u_8 1), .int 0, .int 2, .int 0, .int 0])), ((u_8 0), .inl (g 0, 200, .inl (fun _ => 0))), ((u_8 1), .inl (g 0, 6, .inl (fun _ => 0))), (q_11, .inl (g 0, 6, .inl (fun _ => 0))), (q_16, .inl (g 0, 6, .inl (fun _ => 0))), (q_23, .inr (9, [.ref (u_25 0), .ref (u_25 1), .ref (u_25 2), .int 0, .int 0])), ((u_25 0), .inl (g 0, 100, .inl (fun _ => 0))), ((u_25 1), .inl (g 0, 200, .inl (fun _ => 0))), ((u_25 2), .inl (g 0, 200, .inl (fun _ => 0))), (q_28, .inr (9, [.ref (u_30 0), .ref (u_30 1), .ref (u_30 2), .int 0, .int 0])), ((u_30 0), .inl (g 0, 100, .inl (fun _ => 0))), ((u_30 1), .inl (g 0, 200, .inl (fun _ => 0))), ((u_30 2), .inl (g 0, 200, .inl (fun _ => 0))), (q_33, .inr (9, [.ref (u_35 0), .ref (u_35 1), .ref (u_35 2), .int 0, .int 0])), ((u_35 0), .inl (g 0, 100, .inl (fun _ => 0))), ((u_35 1), .inl (g 0, 200, .inl (fun _ => 0))), ((u_35 2), .inl (g 0, 200, .inl (fun _ => 0)))] H_36 := hP
  have hD : va_D A [(t, .inr (4, [.ref q_1, .ref q_6, .ref q_11, .ref q_16, .int 0, .ref q_23, .ref q_28, .ref q_33, .int 0, .int 0, .int 0, .int 0, .int 0, .int 0, .int 0])), (q_1, .inr (8, [.ref (u_3 0), .ref (u_3 1), .int 0])), ((u_3 0), .inl (g 0, 50, .inl (fun _ => 0))), ((u_3 1), .inl (g 0, 50, .inl (fun _ => 0))), (q_6, .inr (5, [.ref (u_8 0), .ref (u_8 1), .int 0, .int 2, .int 0, .int 0])), ((u_8 0), .inl (g 0, 200, .inl (fun _ => 0))), ((u_8 1), .inl (g 0, 6, .inl (fun _ => 0))), (q_11, .inl (g 0, 6, .inl (fun _ => 0))), (q_16, .inl (g 0, 6, .inl (fun _ => 0))), (q_23, .inr (9, [.ref (u_25 0), .ref (u_25 1), .ref (u_25 2), .int 0, .int 0])), ((u_25 0), .inl (g 0, 100, .inl (fun _ => 0))), ((u_25 1), .inl (g 0, 200, .inl (fun _ => 0))), ((u_25 2), .inl (g 0, 200, .inl (fun _ => 0))), (q_28, .inr (9, [.ref (u_30 0), .ref (u_30 1), .ref (u_30 2), .int 0, .int 0])), ((u_30 0), .inl (g 0, 100, .inl (fun _ => 0))), ((u_30 1), .inl (g 0, 200, .inl (fun _ => 0))), ((u_30 2), .inl (g 0, 200, .inl (fun _ => 0))), (q_33, .inr (9, [.ref (u_35 0), .ref (u_35 1), .ref (u_35 2), .int 0, .int 0])), ((u_35 0), .inl (g 0, 100, .inl (fun _ => 0))), ((u_35 1), .inl (g 0, 200, .inl (fun _ => 0))), ((u_35 2), .inl (g 0, 200, .inl (fun _ => 0)))] := hD
  refine lv_aload_n hx hb dX2_init_80 rfl (lv_at hl 0 rfl) ?_
  refine lv_iconst (v := 0) hx hb dX2_init_81 (by decide) ?_
  refine va_putS (D := (dC, dI)) (ci := 4) (v := .int 0) (ty := .int) (C := RX2) (T := TX2) (N := 15) hx hb hts hiX2 tyX2 tyX2_ok nmX2 hown hK hP hD hS 0 rfl rfl 8 (by decide) hf49 (fun _ h9 => h9) rfl (by decide +kernel) rfl rfl (Nat.le_of_ble_eq_true rfl) rfl dX2_init_82 (fun H_38 L_39 hP hS => ?_)
  refine lv_aload_n hx hb dX2_init_85 rfl (lv_at hl 0 rfl) ?_
  refine lv_iconst (v := 0) hx hb dX2_init_86 (by decide) ?_
  refine va_putS (D := (dC, dI)) (ci := 4) (v := .int 0) (ty := .int) (C := RX2) (T := TX2) (N := 15) hx hb hts hiX2 tyX2 tyX2_ok nmX2 hown hK hP hD hS 0 rfl rfl 9 (by decide) hf52 (fun _ h9 => h9) rfl (by decide +kernel) rfl rfl (Nat.le_of_ble_eq_true rfl) rfl dX2_init_87 (fun H_40 L_41 hP hS => ?_)
  refine lv_aload_n hx hb dX2_init_90 rfl (lv_at hl 0 rfl) ?_
  refine lv_iconst (v := 0) hx hb dX2_init_91 (by decide) ?_
  refine va_putS (D := (dC, dI)) (ci := 4) (v := .int 0) (ty := .int) (C := RX2) (T := TX2) (N := 15) hx hb hts hiX2 tyX2 tyX2_ok nmX2 hown hK hP hD hS 0 rfl rfl 10 (by decide) hf55 (fun _ h9 => h9) rfl (by decide +kernel) rfl rfl (Nat.le_of_ble_eq_true rfl) rfl dX2_init_92 (fun H_42 L_43 hP hS => ?_)
  refine lv_aload_n hx hb dX2_init_95 rfl (lv_at hl 0 rfl) ?_
  refine lv_iconst (v := 0) hx hb dX2_init_96 (by decide) ?_
  refine va_putS (D := (dC, dI)) (ci := 4) (v := .int 0) (ty := .int) (C := RX2) (T := TX2) (N := 15) hx hb hts hiX2 tyX2 tyX2_ok nmX2 hown hK hP hD hS 0 rfl rfl 11 (by decide) hf58 (fun _ h9 => h9) rfl (by decide +kernel) rfl rfl (Nat.le_of_ble_eq_true rfl) rfl dX2_init_97 (fun H_44 L_45 hP hS => ?_)
  refine lv_aload_n hx hb dX2_init_100 rfl (lv_at hl 0 rfl) ?_
  refine lv_iconst (v := 0) hx hb dX2_init_101 (by decide) ?_
  refine va_putS (D := (dC, dI)) (ci := 4) (v := .int 0) (ty := .int) (C := RX2) (T := TX2) (N := 15) hx hb hts hiX2 tyX2 tyX2_ok nmX2 hown hK hP hD hS 0 rfl rfl 12 (by decide) hf61 (fun _ h9 => h9) rfl (by decide +kernel) rfl rfl (Nat.le_of_ble_eq_true rfl) rfl dX2_init_102 (fun H_46 L_47 hP hS => ?_)
  refine lv_aload_n hx hb dX2_init_105 rfl (lv_at hl 0 rfl) ?_
  refine lv_iconst (v := 0) hx hb dX2_init_106 (by decide) ?_
  refine va_putS (D := (dC, dI)) (ci := 4) (v := .int 0) (ty := .int) (C := RX2) (T := TX2) (N := 15) hx hb hts hiX2 tyX2 tyX2_ok nmX2 hown hK hP hD hS 0 rfl rfl 13 (by decide) hf64 (fun _ h9 => h9) rfl (by decide +kernel) rfl rfl (Nat.le_of_ble_eq_true rfl) rfl dX2_init_107 (fun H_48 L_49 hP hS => ?_)
  refine lv_aload_n hx hb dX2_init_110 rfl (lv_at hl 0 rfl) ?_
  refine lv_iconst (v := 0) hx hb dX2_init_111 (by decide) ?_
  refine va_putS (D := (dC, dI)) (ci := 4) (v := .int 0) (ty := .int) (C := RX2) (T := TX2) (N := 15) hx hb hts hiX2 tyX2 tyX2_ok nmX2 hown hK hP hD hS 0 rfl rfl 14 (by decide) hf67 (fun _ h9 => h9) rfl (by decide +kernel) rfl rfl (Nat.le_of_ble_eq_true rfl) rfl dX2_init_112 (fun H_50 L_51 hP hS => ?_)
  have hP9 := hP.sub (ws' := [(t, .inr (4, [.ref q_1, .ref q_6, .ref q_11, .ref q_16, .int 0, .ref q_23, .ref q_28, .ref q_33, .int 0, .int 0, .int 0, .int 0, .int 0, .int 0, .int 0])), (q_1, .inr (8, [.ref (u_3 0), .ref (u_3 1), .int 0])), ((u_3 0), .inl (g 0, 50, .inl (fun _ => 0))), ((u_3 1), .inl (g 0, 50, .inl (fun _ => 0))), (q_6, .inr (5, [.ref (u_8 0), .ref (u_8 1), .int 0, .int 2, .int 0, .int 0])), ((u_8 0), .inl (g 0, 200, .inl (fun _ => 0))), ((u_8 1), .inl (g 0, 6, .inl (fun _ => 0))), (q_11, .inl (g 0, 6, .inl (fun _ => 0))), (q_16, .inl (g 0, 6, .inl (fun _ => 0))), (q_23, .inr (9, [.ref (u_25 0), .ref (u_25 1), .ref (u_25 2), .int 0, .int 0])), ((u_25 0), .inl (g 0, 100, .inl (fun _ => 0))), ((u_25 1), .inl (g 0, 200, .inl (fun _ => 0))), ((u_25 2), .inl (g 0, 200, .inl (fun _ => 0))), (q_28, .inr (9, [.ref (u_30 0), .ref (u_30 1), .ref (u_30 2), .int 0, .int 0])), ((u_30 0), .inl (g 0, 100, .inl (fun _ => 0))), ((u_30 1), .inl (g 0, 200, .inl (fun _ => 0))), ((u_30 2), .inl (g 0, 200, .inl (fun _ => 0))), (q_33, .inr (9, [.ref (u_35 0), .ref (u_35 1), .ref (u_35 2), .int 0, .int 0])), ((u_35 0), .inl (g 0, 100, .inl (fun _ => 0))), ((u_35 1), .inl (g 0, 200, .inl (fun _ => 0))), ((u_35 2), .inl (g 0, 200, .inl (fun _ => 0)))]) [0, 1, 2, 3, 4, 5, 6, 7, 8, 9, 10, 11, 12, 13, 14, 15, 16, 17, 18, 19, 20] rfl
  have hD9 := hD.sub (ws' := [(t, .inr (4, [.ref q_1, .ref q_6, .ref q_11, .ref q_16, .int 0, .ref q_23, .ref q_28, .ref q_33, .int 0, .int 0, .int 0, .int 0, .int 0, .int 0, .int 0])), (q_1, .inr (8, [.ref (u_3 0), .ref (u_3 1), .int 0])), ((u_3 0), .inl (g 0, 50, .inl (fun _ => 0))), ((u_3 1), .inl (g 0, 50, .inl (fun _ => 0))), (q_6, .inr (5, [.ref (u_8 0), .ref (u_8 1), .int 0, .int 2, .int 0, .int 0])), ((u_8 0), .inl (g 0, 200, .inl (fun _ => 0))), ((u_8 1), .inl (g 0, 6, .inl (fun _ => 0))), (q_11, .inl (g 0, 6, .inl (fun _ => 0))), (q_16, .inl (g 0, 6, .inl (fun _ => 0))), (q_23, .inr (9, [.ref (u_25 0), .ref (u_25 1), .ref (u_25 2), .int 0, .int 0])), ((u_25 0), .inl (g 0, 100, .inl (fun _ => 0))), ((u_25 1), .inl (g 0, 200, .inl (fun _ => 0))), ((u_25 2), .inl (g 0, 200, .inl (fun _ => 0))), (q_28, .inr (9, [.ref (u_30 0), .ref (u_30 1), .ref (u_30 2), .int 0, .int 0])), ((u_30 0), .inl (g 0, 100, .inl (fun _ => 0))), ((u_30 1), .inl (g 0, 200, .inl (fun _ => 0))), ((u_30 2), .inl (g 0, 200, .inl (fun _ => 0))), (q_33, .inr (9, [.ref (u_35 0), .ref (u_35 1), .ref (u_35 2), .int 0, .int 0])), ((u_35 0), .inl (g 0, 100, .inl (fun _ => 0))), ((u_35 1), .inl (g 0, 200, .inl (fun _ => 0))), ((u_35 2), .inl (g 0, 200, .inl (fun _ => 0)))]) [0, 1, 2, 3, 4, 5, 6, 7, 8, 9, 10, 11, 12, 13, 14, 15, 16, 17, 18, 19, 20] (by decide) rfl
  exact W.vret hx hb hr (fun t ht hW => ⟨⟨(fun j => ([q_1, (u_3 0), (u_3 1), q_6, (u_8 0), (u_8 1), q_11, q_16, q_23, (u_25 0), (u_25 1), (u_25 2), q_28, (u_30 0), (u_30 1), (u_30 2), q_33, (u_35 0), (u_35 1), (u_35 2)] : List Nat).getD j 0), rfl, trivial, ⟨P_at ht hP9, hD9⟩⟩, hS.F ht⟩) hS.2.2 dX2_init_115
set_option maxHeartbeats 4000000 in
set_option maxRecDepth 100000 in
theorem c_X5_init (l : Launch) (dC : Nat → ClassId) (dI : Nat → Nat → Nat) (g : Nat → ClassId) (t : Nat) (sz : Nat) : Met l yX5_init wsX5_init ({ frames := 2, cells := 4, slots := 170, locals := 32 }) (va_Pc [.ref t] (PG (dC, dI) g [(t, .inr (7, [.null, .null, .null, .int 0, .int 0, .int 0, .int 0, .int 0, .int 0, .int 0, .int 0, .int 0, .int 0]))] sz)) (va_Qv (fun (_ : Nat → Nat) => True) (fun (u : Nat → Nat) t9 => va_P (dC, dI) vwCl [(t, .inr (7, [.ref (u 0), .ref (u 2), .ref (u 3), .int 0, .int 0, .int 0, .int 0, .int 0, .int 0, .int 0, .int 0, .int 0, .int (-1)])), ((u 0), .inr (12, [.ref (u 1), .int 0])), ((u 1), .inl (g 0, 160, .inl (fun _ => 0))), ((u 2), .inl (g 0, 3, .inl (fun _ => 0))), ((u 3), .inr (10, [.int 0, .int 1, .int 4, .int 0, .int 2]))] t9.heap ∧ va_D (va_A [(t, .inr (7, [.null, .null, .null, .int 0, .int 0, .int 0, .int 0, .int 0, .int 0, .int 0, .int 0, .int 0, .int 0]))] sz) [(t, .inr (7, [.ref (u 0), .ref (u 2), .ref (u 3), .int 0, .int 0, .int 0, .int 0, .int 0, .int 0, .int 0, .int 0, .int 0, .int (-1)])), ((u 0), .inr (12, [.ref (u 1), .int 0])), ((u 1), .inl (g 0, 160, .inl (fun _ => 0))), ((u 2), .inl (g 0, 3, .inl (fun _ => 0))), ((u 3), .inr (10, [.int 0, .int 1, .int 4, .int 0, .int 2]))]) (va_A [(t, .inr (7, [.null, .null, .null, .int 0, .int 0, .int 0, .int 0, .int 0, .int 0, .int 0, .int 0, .int 0, .int 0]))] sz)) 4 170 (va_A [(t, .inr (7, [.null, .null, .null, .int 0, .int 0, .int 0, .int 0, .int 0, .int 0, .int 0, .int 0, .int 0, .int 0]))] sz) := by
  refine Met.ofW (cc := cX5_init) (maxL := 1) (ret := none) (by decide) rfl ?_
  intro p e s m args below meth c s₁ B hml hv
  obtain ⟨rfl, hsz, hP, hK, hD0, hG⟩ := hv
  have hx := B.exec
  have hb := B.bytes
  have hr := B.returns
  have hts := atoms_spec (ws := wsX5_init) B.pre
  have hown : s.vm.findClass RX5 = some m.cls := findClass_of_methodNamed B.named
  have hlocks := B.notSynchronized
  have hin : meth.name = "<init>" := (name_of_methodNamed B.named B.method).1
  subst hsz
  have hD := hD0.self (sz := s.heap.size)
  generalize hAe : va_A [(t, .inr (7, [.null, .null, .null, .int 0, .int 0, .int 0, .int 0, .int 0, .int 0, .int 0, .int 0, .int 0, .int 0]))] s.heap.size = A at hD hG ⊢
  have hA : ∀ q : Nat, s.heap.size ≤ q → A q := fun q h => by rw [← hAe]; exact Or.inr h
  have hS : va_S A s.heap s.heap [] := va_S.rf
  have hl := lv_entry ([.ref t]) (n := 1) (Nat.le_of_ble_eq_true rfl)
  rw [lg_entry_eq]
  generalize (lg_sl ([.ref t]) ++ List.replicate (1 - (lg_sl ([.ref t])).length) Slot.unset).toArray = ls at hl ⊢
  have hl : lv_has ls 1 [(0, .ref t)] := hl
  have hml3 := hts (Cond.methodLink RX5 3 objectInit) (by decide +kernel)
  have hoi := hts (Cond.instanceMethod objectInit) (by decide +kernel)
  have hoc := hts (Cond.code objectInit ⟨#[0xb1]⟩ 1 none) (by decide +kernel)
  have hcl9 := hts (Cond.classLink RX5 9 RX10) (by decide +kernel)
  have hinX10 := hts (Cond.instantiable RX10 2) (by decide +kernel)
  have hiniX10 := hts (Cond.initialized RX10) (by decide +kernel)
  have hiX10 : ∀ w ∈ u_ws RX10 TX10 2, w ∈ wsX5_init := by decide +kernel
  have himX10_init := hts (Cond.instanceMethod yX10_init) (by decide +kernel)
  have hf12 := hts (Cond.fieldLink RX5 12 "RunmergeOffice$Reader" "text" "LRunmergeOffice$Text;") (by decide +kernel)
  have hiX5 : ∀ w ∈ u_ws RX5 TX5 13, w ∈ wsX5_init := by decide +kernel
  have hnaint := hts (Cond.arrayClass (newarray.typeOf .int)) (by decide +kernel)
  have hf18 := hts (Cond.fieldLink RX5 18 "RunmergeOffice$Reader" "operands" "[I") (by decide +kernel)
  have hcl22 := hts (Cond.classLink RX5 22 RX8) (by decide +kernel)
  have hinX8 := hts (Cond.instantiable RX8 5) (by decide +kernel)
  have hiniX8 := hts (Cond.initialized RX8) (by decide +kernel)
  have hiX8 : ∀ w ∈ u_ws RX8 TX8 5, w ∈ wsX5_init := by decide +kernel
  have himX8_init := hts (Cond.instanceMethod yX8_init) (by decide +kernel)
  have hf25 := hts (Cond.fieldLink RX5 25 "RunmergeOffice$Reader" "told" "LRunmergeOffice$Settings;") (by decide +kernel)
  have hf29 := hts (Cond.fieldLink RX5 29 "RunmergeOffice$Reader" "wordKind" "I") (by decide +kernel)
  have hf33 := hts (Cond.fieldLink RX5 33 "RunmergeOffice$Reader" "wordPlace" "I") (by decide +kernel)
  have hf36 := hts (Cond.fieldLink RX5 36 "RunmergeOffice$Reader" "wordEnd" "I") (by decide +kernel)
  have hf39 := hts (Cond.fieldLink RX5 39 "RunmergeOffice$Reader" "number" "I") (by decide +kernel)
  have hf42 := hts (Cond.fieldLink RX5 42 "RunmergeOffice$Reader" "statementPlace" "I") (by decide +kernel)
  have hf45 := hts (Cond.fieldLink RX5 45 "RunmergeOffice$Reader" "action" "I") (by decide +kernel)
  have hf48 := hts (Cond.fieldLink RX5 48 "RunmergeOffice$Reader" "how" "I") (by decide +kernel)
  have hf51 := hts (Cond.fieldLink RX5 51 "RunmergeOffice$Reader" "isLast" "Z") (by decide +kernel)
  have hf55 := hts (Cond.fieldLink RX5 55 "RunmergeOffice$Reader" "faultKind" "I") (by decide +kernel)
  have hf58 := hts (Cond.fieldLink RX5 58 "RunmergeOffice$Reader" "faultPlace" "I") (by decide +kernel)
  refine lv_aload_n hx hb dX5_init_0 rfl (lv_at hl 0 rfl) ?_
  refine W.objInit hx hb hown hml3 hoi hoc rfl (by rw [hml]; exact hl.1) rfl dX5_init_1 (Nat.le_of_ble_eq_true rfl) (Nat.le_of_ble_eq_true rfl) ?_
  refine W.eq (g2 := F0 m 4 ls []) rfl ?_
  refine lv_aload_n hx hb dX5_init_4 rfl (lv_at hl 0 rfl) ?_
  refine va_new (ci := 12) (fs := [.null, .int 0]) (C := RX10) (T := TX10) (N := 2) hx hb hts hiX10 tyX10 tyX10_ok hown hcl9 hinX10 hiniX10 hK hP hD hS hA rfl (fun j hj => by rcases (show j = 0 ∨ j = 1 by omega) with rfl | rfl <;> rfl) (Nat.le_of_ble_eq_true rfl) (Nat.le_of_ble_eq_true rfl) dX5_init_5 (fun q_1 H_2 hP hD hS => ?_)
  have hP : va_P (dC, dI) vwCl [(t, .inr (7, [.null, .null, .null, .int 0, .int 0, .int 0, .int 0, .int 0, .int 0, .int 0, .int 0, .int 0, .int 0])), (q_1, .inr (12, [.null, .int 0]))] H_2 := hP
  have hD : va_D A [(t, .inr (7, [.null, .null, .null, .int 0, .int 0, .int 0, .int 0, .int 0, .int 0, .int 0, .int 0, .int 0, .int 0])), (q_1, .inr (12, [.null, .int 0]))] := hD
  refine W.widen (k := 1) (n := 2) (by omega) (by omega) ?_
  refine lv_dup hx hb dX5_init_8 rfl ?_
  have hPc := hP.sub (ws' := [(q_1, .inr (12, [.null, .int 0]))]) [1] rfl
  have hDc := hD.sub (ws' := [(q_1, .inr (12, [.null, .int 0]))]) [1] (by decide) rfl
  have hFc := va_free (wc := [(q_1, .inr (12, [.null, .int 0]))]) hD hS hA [1] rfl
  refine va_callv (va_runIN (As := []) (rest := [.ref q_1, .ref t]) ⟨hx, hb, hml, hown, hts⟩ (c_X10_init l dC dI g q_1  H_2.size) ⟨va_cnB 0 hts gX5_init_X10_init_n11 rfl rfl rfl (mnl_12 hG) hiniX10 (by decide +kernel) ⟨Nat.le_of_ble_eq_true rfl, Nat.le_of_ble_eq_true rfl⟩, rfl, himX10_init⟩ ⟨PG_blind, PG_call hK hG hS hPc hDc hFc⟩ rfl rfl hl.1 rfl (lv_room (Nat.le_of_ble_eq_true rfl)) dX5_init_9 ⟨Nat.le_of_ble_eq_true rfl, Nat.le_of_ble_eq_true rfl⟩) hS (fun q _ h => hFc q h) hFc (fun u_3 t_3 H_3 L_3 ht_3 hvm_3 hw_3 hB_3 hz_3 hk_3 hS => ?_)
  obtain ⟨hP1, hD1⟩ := hB_3
  rw [ht_3] at hP1
  obtain ⟨hP, hD⟩ := va_join (wr := [(t, .inr (7, [.null, .null, .null, .int 0, .int 0, .int 0, .int 0, .int 0, .int 0, .int 0, .int 0, .int 0, .int 0]))]) (w1 := [(q_1, .inr (12, [.ref (u_3 0), .int 0])), ((u_3 0), .inl (g 0, 160, .inl (fun _ => 0)))]) hP hD [1] [0] rfl rfl (by decide) (by decide) hk_3 hFc hP1 hD1
  have hP : va_P (dC, dI) vwCl [(t, .inr (7, [.null, .null, .null, .int 0, .int 0, .int 0, .int 0, .int 0, .int 0, .int 0, .int 0, .int 0, .int 0])), (q_1, .inr (12, [.ref (u_3 0), .int 0])), ((u_3 0), .inl (g 0, 160, .inl (fun _ => 0)))] H_3 := hP
  have hD : va_D A [(t, .inr (7, [.null, .null, .null, .int 0, .int 0, .int 0, .int 0, .int 0, .int 0, .int 0, .int 0, .int 0, .int 0])), (q_1, .inr (12, [.ref (u_3 0), .int 0])), ((u_3 0), .inl (g 0, 160, .inl (fun _ => 0)))] := hD
  refine W.widen (k := 2) (n := 162) (by omega) (by omega) ?_
  refine va_putF (D := (dC, dI)) (ci := 7) (v := .ref q_1) (ty := .object "RunmergeOffice$Text") (C := RX5) (T := TX5) (N := 13) hx hb hts hiX5 tyX5 tyX5_ok nmX5 hown hK hP hD hS 0 rfl rfl 0 (by decide) hf12 (fun _ h9 => h9) rfl hin rfl (by decide +kernel) rfl rfl (Nat.le_of_ble_eq_true rfl) dX5_init_12 (fun H_4 L_5 hP hD hS => ?_)
  have hP : va_P (dC, dI) vwCl [(t, .inr (7, [.ref q_1, .null, .null, .int 0, .int 0, .int 0, .int 0, .int 0, .int 0, .int 0, .int 0, .int 0, .int 0])), (q_1, .inr (12, [.ref (u_3 0), .int 0])), ((u_3 0), .inl (g 0, 160, .inl (fun _ => 0)))] H_4 := hP
  have hD : va_D A [(t, .inr (7, [.ref q_1, .null, .null, .int 0, .int 0, .int 0, .int 0, .int 0, .int 0, .int 0, .int 0, .int 0, .int 0])), (q_1, .inr (12, [.ref (u_3 0), .int 0])), ((u_3 0), .inl (g 0, 160, .inl (fun _ => 0)))] := hD
  refine lv_aload_n hx hb dX5_init_15 rfl (lv_at hl 0 rfl) ?_
  refine lv_iconst (v := 3) hx hb dX5_init_16 (by decide) ?_
  refine va_newa (atype := .int) (a0 := (3, .inl (fun _ => 0))) hx hb hnaint rfl hK hP hD hS hA (fun _ => rfl) (by decide) (N' := 3) (by decide) (Nat.le_of_ble_eq_true rfl) (Nat.le_of_ble_eq_true rfl) (Nat.le_of_ble_eq_true rfl) dX5_init_17 (fun q_6 cA_8 H_7 hK9 hP hD hS => ?_)
  obtain rfl : g 0 = cA_8 := K_one hK9 0 6 rfl rfl
  have hP : va_P (dC, dI) vwCl [(t, .inr (7, [.ref q_1, .null, .null, .int 0, .int 0, .int 0, .int 0, .int 0, .int 0, .int 0, .int 0, .int 0, .int 0])), (q_1, .inr (12, [.ref (u_3 0), .int 0])), ((u_3 0), .inl (g 0, 160, .inl (fun _ => 0))), (q_6, .inl (g 0, 3, .inl (fun _ => 0)))] H_7 := hP
  have hD : va_D A [(t, .inr (7, [.ref q_1, .null, .null, .int 0, .int 0, .int 0, .int 0, .int 0, .int 0, .int 0, .int 0, .int 0, .int 0])), (q_1, .inr (12, [.ref (u_3 0), .int 0])), ((u_3 0), .inl (g 0, 160, .inl (fun _ => 0))), (q_6, .inl (g 0, 3, .inl (fun _ => 0)))] := hD
  refine W.widen (k := 3) (n := 165) (by omega) (by omega) ?_
  refine va_putF (D := (dC, dI)) (ci := 7) (v := .ref q_6) (ty := .array .int) (C := RX5) (T := TX5) (N := 13) hx hb hts hiX5 tyX5 tyX5_ok nmX5 hown hK hP hD hS 0 rfl rfl 1 (by decide) hf18 (fun _ h9 => h9) rfl hin rfl (by decide +kernel) rfl rfl (Nat.le_of_ble_eq_true rfl) dX5_init_19 (fun H_9 L_10 hP hD hS => ?_)
  have hP : va_P (dC, dI) vwCl [(t, .inr (7, [.ref q_1, .ref q_6, .null, .int 0, .int 0, .int 0, .int 0, .int 0, .int 0, .int 0, .int 0, .int 0, .int 0])), (q_1, .inr (12, [.ref (u_3 0), .int 0])), ((u_3 0), .inl (g 0, 160, .inl (fun _ => 0))), (q_6, .inl (g 0, 3, .inl (fun _ => 0)))] H_9 := hP
  have hD : va_D A [(t, .inr (7, [.ref q_1, .ref q_6, .null, .int 0, .int 0, .int 0, .int 0, .int 0, .int 0, .int 0, .int 0, .int 0, .int 0])), (q_1, .inr (12, [.ref (u_3 0), .int 0])), ((u_3 0), .inl (g 0, 160, .inl (fun _ => 0))), (q_6, .inl (g 0, 3, .inl (fun _ => 0)))] := hD
  refine lv_aload_n hx hb dX5_init_22 rfl (lv_at hl 0 rfl) ?_
  refine va_new (ci := 10) (fs := [.int 0, .int 0, .int 0, .int 0, .int 0]) (C := RX8) (T := TX8) (N := 5) hx hb hts hiX8 tyX8 tyX8_ok hown hcl22 hinX8 hiniX8 hK hP hD hS hA rfl (fun j hj => by rcases (show j = 0 ∨ j = 1 ∨ j = 2 ∨ j = 3 ∨ j = 4 by omega) with rfl | rfl | rfl | rfl | rfl <;> rfl) (Nat.le_of_ble_eq_true rfl) (Nat.le_of_ble_eq_true rfl) dX5_init_23 (fun q_11 H_12 hP hD hS => ?_)
  have hP : va_P (dC, dI) vwCl [(t, .inr (7, [.ref q_1, .ref q_6, .null, .int 0, .int 0, .int 0, .int 0, .int 0, .int 0, .int 0, .int 0, .int 0, .int 0])), (q_1, .inr (12, [.ref (u_3 0), .int 0])), ((u_3 0), .inl (g 0, 160, .inl (fun _ => 0))), (q_6, .inl (g 0, 3, .inl (fun _ => 0))), (q_11, .inr (10, [.int 0, .int 0, .int 0, .int 0, .int 0]))] H_12 := hP
  have hD : va_D A [(t, .inr (7, [.ref q_1, .ref q_6, .null, .int 0, .int 0, .int 0, .int 0, .int 0, .int 0, .int 0, .int 0, .int 0, .int 0])), (q_1, .inr (12, [.ref (u_3 0), .int 0])), ((u_3 0), .inl (g 0, 160, .inl (fun _ => 0))), (q_6, .inl (g 0, 3, .inl (fun _ => 0))), (q_11, .inr (10, [.int 0, .int 0, .int 0, .int 0, .int 0]))] := hD
  refine W.widen (k := 4) (n := 170) (by omega) (by omega) ?_
  refine lv_dup hx hb dX5_init_26 rfl ?_
  have hPc := hP.sub (ws' := [(q_11, .inr (10, [.int 0, .int 0, .int 0, .int 0, .int 0]))]) [4] rfl
  have hDc := hD.sub (ws' := [(q_11, .inr (10, [.int 0, .int 0, .int 0, .int 0, .int 0]))]) [4] (by decide) rfl
  have hFc := va_free (wc := [(q_11, .inr (10, [.int 0, .int 0, .int 0, .int 0, .int 0]))]) hD hS hA [4] rfl
  refine va_callv (va_runIN (As := []) (rest := [.ref q_11, .ref t]) ⟨hx, hb, hml, hown, hts⟩ (c_X8_init l dC dI g q_11  H_12.size) ⟨va_cnB 0 hts gX5_init_X8_init_n24 rfl rfl rfl (mnl_13 hG) hiniX8 (by decide +kernel) ⟨Nat.le_of_ble_eq_true rfl, Nat.le_of_ble_eq_true rfl⟩, rfl, himX8_init⟩ ⟨PG_blind, PG_call hK hG hS hPc hDc hFc⟩ rfl rfl hl.1 rfl (lv_room (Nat.le_of_ble_eq_true rfl)) dX5_init_27 ⟨Nat.le_of_ble_eq_true rfl, Nat.le_of_ble_eq_true rfl⟩) hS (fun q _ h => hFc q h) hFc (fun u_13 t_13 H_13 L_13 ht_13 hvm_13 hw_13 hB_13 hz_13 hk_13 hS => ?_)
  obtain ⟨hP1, hD1⟩ := hB_13
  rw [ht_13] at hP1
  obtain ⟨hP, hD⟩ := va_join (wr := [(t, .inr (7, [.ref q_1, .ref q_6, .null, .int 0, .int 0, .int 0, .int 0, .int 0, .int 0, .int 0, .int 0, .int 0, .int 0])), (q_1, .inr (12, [.ref (u_3 0), .int 0])), ((u_3 0), .inl (g 0, 160, .inl (fun _ => 0))), (q_6, .inl (g 0, 3, .inl (fun _ => 0)))]) (w1 := [(q_11, .inr (10, [.int 0, .int 1, .int 4, .int 0, .int 2]))]) hP hD [4] [0, 1, 2, 3] rfl rfl (by decide) (by decide) hk_13 hFc hP1 hD1
  have hP : va_P (dC, dI) vwCl [(t, .inr (7, [.ref q_1, .ref q_6, .null, .int 0, .int 0, .int 0, .int 0, .int 0, .int 0, .int 0, .int 0, .int 0, .int 0])), (q_1, .inr (12, [.ref (u_3 0), .int 0])), ((u_3 0), .inl (g 0, 160, .inl (fun _ => 0))), (q_6, .inl (g 0, 3, .inl (fun _ => 0))), (q_11, .inr (10, [.int 0, .int 1, .int 4, .int 0, .int 2]))] H_13 := hP
  have hD : va_D A [(t, .inr (7, [.ref q_1, .ref q_6, .null, .int 0, .int 0, .int 0, .int 0, .int 0, .int 0, .int 0, .int 0, .int 0, .int 0])), (q_1, .inr (12, [.ref (u_3 0), .int 0])), ((u_3 0), .inl (g 0, 160, .inl (fun _ => 0))), (q_6, .inl (g 0, 3, .inl (fun _ => 0))), (q_11, .inr (10, [.int 0, .int 1, .int 4, .int 0, .int 2]))] := hD
  refine va_putF (D := (dC, dI)) (ci := 7) (v := .ref q_11) (ty := .object "RunmergeOffice$Settings") (C := RX5) (T := TX5) (N := 13) hx hb hts hiX5 tyX5 tyX5_ok nmX5 hown hK hP hD hS 0 rfl rfl 2 (by decide) hf25 (fun _ h9 => h9) rfl hin rfl (by decide +kernel) rfl rfl (Nat.le_of_ble_eq_true rfl) dX5_init_30 (fun H_14 L_15 hP hD hS => ?_)
  have hP : va_P (dC, dI) vwCl [(t, .inr (7, [.ref q_1, .ref q_6, .ref q_11, .int 0, .int 0, .int 0, .int 0, .int 0, .int 0, .int 0, .int 0, .int 0, .int 0])), (q_1, .inr (12, [.ref (u_3 0), .int 0])), ((u_3 0), .inl (g 0, 160, .inl (fun _ => 0))), (q_6, .inl (g 0, 3, .inl (fun _ => 0))), (q_11, .inr (10, [.int 0, .int 1, .int 4, .int 0, .int 2]))] H_14 := hP
  have hD : va_D A [(t, .inr (7, [.ref q_1, .ref q_6, .ref q_11, .int 0, .int 0, .int 0, .int 0, .int 0, .int 0, .int 0, .int 0, .int 0, .int 0])), (q_1, .inr (12, [.ref (u_3 0), .int 0])), ((u_3 0), .inl (g 0, 160, .inl (fun _ => 0))), (q_6, .inl (g 0, 3, .inl (fun _ => 0))), (q_11, .inr (10, [.int 0, .int 1, .int 4, .int 0, .int 2]))] := hD
  refine lv_aload_n hx hb dX5_init_33 rfl (lv_at hl 0 rfl) ?_
  refine lv_iconst (v := 0) hx hb dX5_init_34 (by decide) ?_
  refine va_putS (D := (dC, dI)) (ci := 7) (v := .int 0) (ty := .int) (C := RX5) (T := TX5) (N := 13) hx hb hts hiX5 tyX5 tyX5_ok nmX5 hown hK hP hD hS 0 rfl rfl 3 (by decide) hf29 (fun _ h9 => h9) rfl (by decide +kernel) rfl rfl (Nat.le_of_ble_eq_true rfl) rfl dX5_init_35 (fun H_16 L_17 hP hS => ?_)
  refine lv_aload_n hx hb dX5_init_38 rfl (lv_at hl 0 rfl) ?_
  refine lv_iconst (v := 0) hx hb dX5_init_39 (by decide) ?_
  refine va_putS (D := (dC, dI)) (ci := 7) (v := .int 0) (ty := .int) (C := RX5) (T := TX5) (N := 13) hx hb hts hiX5 tyX5 tyX5_ok nmX5 hown hK hP hD hS 0 rfl rfl 4 (by decide) hf33 (fun _ h9 => h9) rfl (by decide +kernel) rfl rfl (Nat.le_of_ble_eq_true rfl) rfl dX5_init_40 (fun H_18 L_19 hP hS => ?_)
  refine lv_aload_n hx hb dX5_init_43 rfl (lv_at hl 0 rfl) ?_
  refine lv_iconst (v := 0) hx hb dX5_init_44 (by decide) ?_
  refine va_putS (D := (dC, dI)) (ci := 7) (v := .int 0) (ty := .int) (C := RX5) (T := TX5) (N := 13) hx hb hts hiX5 tyX5 tyX5_ok nmX5 hown hK hP hD hS 0 rfl rfl 5 (by decide) hf36 (fun _ h9 => h9) rfl (by decide +kernel) rfl rfl (Nat.le_of_ble_eq_true rfl) rfl dX5_init_45 (fun H_20 L_21 hP hS => ?_)
  refine lv_aload_n hx hb dX5_init_48 rfl (lv_at hl 0 rfl) ?_
  refine lv_iconst (v := 0) hx hb dX5_init_49 (by decide) ?_
  refine va_putS (D := (dC, dI)) (ci := 7) (v := .int 0) (ty := .int) (C := RX5) (T := TX5) (N := 13) hx hb hts hiX5 tyX5 tyX5_ok nmX5 hown hK hP hD hS 0 rfl rfl 6 (by decide) hf39 (fun _ h9 => h9) rfl (by decide +kernel) rfl rfl (Nat.le_of_ble_eq_true rfl) rfl dX5_init_50 (fun H_22 L_23 hP hS => ?_)
  refine lv_aload_n hx hb dX5_init_53 rfl (lv_at hl 0 rfl) ?_
  refine lv_iconst (v := 0) hx hb dX5_init_54 (by decide) ?_
  refine va_putS (D := (dC, dI)) (ci := 7) (v := .int 0) (ty := .int) (C := RX5) (T := TX5) (N := 13) hx hb hts hiX5 tyX5 tyX5_ok nmX5 hown hK hP hD hS 0 rfl rfl 7 (by decide) hf42 (fun _ h9 => h9) rfl (by decide +kernel) rfl rfl (Nat.le_of_ble_eq_true rfl) rfl dX5_init_55 (fun H_24 L_25 hP hS => ?_)
  refine lv_aload_n hx hb dX5_init_58 rfl (lv_at hl 0 rfl) ?_
  refine lv_iconst (v := 0) hx hb dX5_init_59 (by decide) ?_
  refine va_putS (D := (dC, dI)) (ci := 7) (v := .int 0) (ty := .int) (C := RX5) (T := TX5) (N := 13) hx hb hts hiX5 tyX5 tyX5_ok nmX5 hown hK hP hD hS 0 rfl rfl 8 (by decide) hf45 (fun _ h9 => h9) rfl (by decide +kernel) rfl rfl (Nat.le_of_ble_eq_true rfl) rfl dX5_init_60 (fun H_26 L_27 hP hS => ?_)
  refine lv_aload_n hx hb dX5_init_63 rfl (lv_at hl 0 rfl) ?_
  refine lv_iconst (v := 0) hx hb dX5_init_64 (by decide) ?_
  refine va_putS (D := (dC, dI)) (ci := 7) (v := .int 0) (ty := .int) (C := RX5) (T := TX5) (N := 13) hx hb hts hiX5 tyX5 tyX5_ok nmX5 hown hK hP hD hS 0 rfl rfl 9 (by decide) hf48 (fun _ h9 => h9) rfl (by decide +kernel) rfl rfl (Nat.le_of_ble_eq_true rfl) rfl dX5_init_65 (fun H_28 L_29 hP hS => ?_)
  refine lv_aload_n hx hb dX5_init_68 rfl (lv_at hl 0 rfl) ?_
  refine lv_iconst (v := 0) hx hb dX5_init_69 (by decide) ?_
  refine va_putS (D := (dC, dI)) (ci := 7) (v := .int 0) (ty := .boolean) (C := RX5) (T := TX5) (N := 13) hx hb hts hiX5 tyX5 tyX5_ok nmX5 hown hK hP hD hS 0 rfl rfl 10 (by decide) hf51 (fun _ h9 => h9) rfl (by decide +kernel) rfl rfl (Nat.le_of_ble_eq_true rfl) rfl dX5_init_70 (fun H_30 L_31 hP hS => ?_)
  refine lv_aload_n hx hb dX5_init_73 rfl (lv_at hl 0 rfl) ?_
  refine lv_iconst (v := 0) hx hb dX5_init_74 (by decide) ?_
  refine va_putS (D := (dC, dI)) (ci := 7) (v := .int 0) (ty := .int) (C := RX5) (T := TX5) (N := 13) hx hb hts hiX5 tyX5 tyX5_ok nmX5 hown hK hP hD hS 0 rfl rfl 11 (by decide) hf55 (fun _ h9 => h9) rfl (by decide +kernel) rfl rfl (Nat.le_of_ble_eq_true rfl) rfl dX5_init_75 (fun H_32 L_33 hP hS => ?_)
  refine lv_aload_n hx hb dX5_init_78 rfl (lv_at hl 0 rfl) ?_
  refine lv_iconst (v := (-1)) hx hb dX5_init_79 (by decide) ?_
  refine va_put (D := (dC, dI)) (ci := 7) (v := .int (-1)) (ty := .int) (C := RX5) (T := TX5) (N := 13) hx hb hts hiX5 tyX5 tyX5_ok nmX5 hown hK hP hD hS 0 rfl rfl 12 (by decide) hf58 (fun _ h9 => h9) rfl (by decide +kernel) rfl rfl (Nat.le_of_ble_eq_true rfl) dX5_init_80 (fun H_34 L_35 hP hD hS => ?_)
  have hP : va_P (dC, dI) vwCl [(t, .inr (7, [.ref q_1, .ref q_6, .ref q_11, .int 0, .int 0, .int 0, .int 0, .int 0, .int 0, .int 0, .int 0, .int 0, .int (-1)])), (q_1, .inr (12, [.ref (u_3 0), .int 0])), ((u_3 0), .inl (g 0, 160, .inl (fun _ => 0))), (q_6, .inl (g 0, 3, .inl (fun _ => 0))), (q_11, .inr (10, [.int 0, .int 1, .int 4, .int 0, .int 2]))] H_34 := hP
  have hD : va_D A [(t, .inr (7, [.ref q_1, .ref q_6, .ref q_11, .int 0, .int 0, .int 0, .int 0, .int 0, .int 0, .int 0, .int 0, .int 0, .int (-1)])), (q_1, .inr (12, [.ref (u_3 0), .int 0])), ((u_3 0), .inl (g 0, 160, .inl (fun _ => 0))), (q_6, .inl (g 0, 3, .inl (fun _ => 0))), (q_11, .inr (10, [.int 0, .int 1, .int 4, .int 0, .int 2]))] := hD
  have hP9 := hP.sub (ws' := [(t, .inr (7, [.ref q_1, .ref q_6, .ref q_11, .int 0, .int 0, .int 0, .int 0, .int 0, .int 0, .int 0, .int 0, .int 0, .int (-1)])), (q_1, .inr (12, [.ref (u_3 0), .int 0])), ((u_3 0), .inl (g 0, 160, .inl (fun _ => 0))), (q_6, .inl (g 0, 3, .inl (fun _ => 0))), (q_11, .inr (10, [.int 0, .int 1, .int 4, .int 0, .int 2]))]) [0, 1, 2, 3, 4] rfl
  have hD9 := hD.sub (ws' := [(t, .inr (7, [.ref q_1, .ref q_6, .ref q_11, .int 0, .int 0, .int 0, .int 0, .int 0, .int 0, .int 0, .int 0, .int 0, .int (-1)])), (q_1, .inr (12, [.ref (u_3 0), .int 0])), ((u_3 0), .inl (g 0, 160, .inl (fun _ => 0))), (q_6, .inl (g 0, 3, .inl (fun _ => 0))), (q_11, .inr (10, [.int 0, .int 1, .int 4, .int 0, .int 2]))]) [0, 1, 2, 3, 4] (by decide) rfl
  exact W.vret hx hb hr (fun t ht hW => ⟨⟨(fun j => ([q_1, (u_3 0), q_6, q_11] : List Nat).getD j 0), rfl, trivial, ⟨P_at ht hP9, hD9⟩⟩, hS.F ht⟩) hS.2.2 dX5_init_83
set_option maxHeartbeats 4000000 in
set_option maxRecDepth 100000 in
theorem c_X1_init (l : Launch) (dC : Nat → ClassId) (dI : Nat → Nat → Nat) (g : Nat → ClassId) (t : Nat) (sz : Nat) : Met l yX1_init wsX1_init ({ frames := 3, cells := 38, slots := 3392, locals := 52 }) (va_Pc [.ref t] (PG (dC, dI) g [(t, .inr (3, [.null, .null, .null, .null, .null, .null, .null, .int 0]))] sz)) (va_Qv (fun (_ : Nat → Nat) => True) (fun (u : Nat → Nat) t9 => va_P (dC, dI) vwCl [(t, .inr (3, [.ref (u 0), .ref (u 3), .ref (u 24), .ref (u 30), .ref (u 31), .ref (u 35), .ref (u 37), .int 0])), ((u 0), .inr (8, [.ref (u 1), .ref (u 2), .int 0])), ((u 1), .inl (g 0, 50, .inl (fun _ => 0))), ((u 2), .inl (g 0, 50, .inl (fun _ => 0))), ((u 3), .inr (4, [.ref (u 4), .ref (u 7), .ref (u 10), .ref (u 11), .int 0, .ref (u 12), .ref (u 16), .ref (u 20), .int 0, .int 0, .int 0, .int 0, .int 0, .int 0, .int 0])), ((u 4), .inr (8, [.ref (u 5), .ref (u 6), .int 0])), ((u 5), .inl (g 0, 50, .inl (fun _ => 0))), ((u 6), .inl (g 0, 50, .inl (fun _ => 0))), ((u 7), .inr (5, [.ref (u 8), .ref (u 9), .int 0, .int 2, .int 0, .int 0])), ((u 8), .inl (g 0, 200, .inl (fun _ => 0))), ((u 9), .inl (g 0, 6, .inl (fun _ => 0))), ((u 10), .inl (g 0, 6, .inl (fun _ => 0))), ((u 11), .inl (g 0, 6, .inl (fun _ => 0))), ((u 12), .inr (9, [.ref (u 13), .ref (u 14), .ref (u 15), .int 0, .int 0])), ((u 13), .inl (g 0, 100, .inl (fun _ => 0))), ((u 14), .inl (g 0, 200, .inl (fun _ => 0))), ((u 15), .inl (g 0, 200, .inl (fun _ => 0))), ((u 16), .inr (9, [.ref (u 17), .ref (u 18), .ref (u 19), .int 0, .int 0])), ((u 17), .inl (g 0, 100, .inl (fun _ => 0))), ((u 18), .inl (g 0, 200, .inl (fun _ => 0))), ((u 19), .inl (g 0, 200, .inl (fun _ => 0))), ((u 20), .inr (9, [.ref (u 21), .ref (u 22), .ref (u 23), .int 0, .int 0])), ((u 21), .inl (g 0, 100, .inl (fun _ => 0))), ((u 22), .inl (g 0, 200, .inl (fun _ => 0))), ((u 23), .inl (g 0, 200, .inl (fun _ => 0))), ((u 24), .inr (6, [.ref (u 25), .ref (u 28), .ref (u 29), .int 0, .int 0, .int 0, .int 0, .int 0])), ((u 25), .inr (5, [.ref (u 26), .ref (u 27), .int 0, .int 2, .int 0, .int 0])), ((u 26), .inl (g 0, 200, .inl (fun _ => 0))), ((u 27), .inl (g 0, 6, .inl (fun _ => 0))), ((u 28), .inl (g 0, 200, .inl (fun _ => 0))), ((u 29), .inl (g 0, 200, .inl (fun _ => 0))), ((u 30), .inr (10, [.int 0, .int 1, .int 4, .int 0, .int 2])), ((u 31), .inr (9, [.ref (u 32), .ref (u 33), .ref (u 34), .int 0, .int 0])), ((u 32), .inl (g 0, 100, .inl (fun _ => 0))), ((u 33), .inl (g 0, 200, .inl (fun _ => 0))), ((u 34), .inl (g 0, 200, .inl (fun _ => 0))), ((u 35), .inr (11, [.ref (u 36), .int 0])), ((u 36), .inl (g 0, 100, .inl (fun _ => 0))), ((u 37), .inl (g 0, 200, .inl (fun _ => 0)))] t9.heap ∧ va_D (va_A [(t, .inr (3, [.null, .null, .null, .null, .null, .null, .null, .int 0]))] sz) [(t, .inr (3, [.ref (u 0), .ref (u 3), .ref (u 24), .ref (u 30), .ref (u 31), .ref (u 35), .ref (u 37), .int 0])), ((u 0), .inr (8, [.ref (u 1), .ref (u 2), .int 0])), ((u 1), .inl (g 0, 50, .inl (fun _ => 0))), ((u 2), .inl (g 0, 50, .inl (fun _ => 0))), ((u 3), .inr (4, [.ref (u 4), .ref (u 7), .ref (u 10), .ref (u 11), .int 0, .ref (u 12), .ref (u 16), .ref (u 20), .int 0, .int 0, .int 0, .int 0, .int 0, .int 0, .int 0])), ((u 4), .inr (8, [.ref (u 5), .ref (u 6), .int 0])), ((u 5), .inl (g 0, 50, .inl (fun _ => 0))), ((u 6), .inl (g 0, 50, .inl (fun _ => 0))), ((u 7), .inr (5, [.ref (u 8), .ref (u 9), .int 0, .int 2, .int 0, .int 0])), ((u 8), .inl (g 0, 200, .inl (fun _ => 0))), ((u 9), .inl (g 0, 6, .inl (fun _ => 0))), ((u 10), .inl (g 0, 6, .inl (fun _ => 0))), ((u 11), .inl (g 0, 6, .inl (fun _ => 0))), ((u 12), .inr (9, [.ref (u 13), .ref (u 14), .ref (u 15), .int 0, .int 0])), ((u 13), .inl (g 0, 100, .inl (fun _ => 0))), ((u 14), .inl (g 0, 200, .inl (fun _ => 0))), ((u 15), .inl (g 0, 200, .inl (fun _ => 0))), ((u 16), .inr (9, [.ref (u 17), .ref (u 18), .ref (u 19), .int 0, .int 0])), ((u 17), .inl (g 0, 100, .inl (fun _ => 0))), ((u 18), .inl (g 0, 200, .inl (fun _ => 0))), ((u 19), .inl (g 0, 200, .inl (fun _ => 0))), ((u 20), .inr (9, [.ref (u 21), .ref (u 22), .ref (u 23), .int 0, .int 0])), ((u 21), .inl (g 0, 100, .inl (fun _ => 0))), ((u 22), .inl (g 0, 200, .inl (fun _ => 0))), ((u 23), .inl (g 0, 200, .inl (fun _ => 0))), ((u 24), .inr (6, [.ref (u 25), .ref (u 28), .ref (u 29), .int 0, .int 0, .int 0, .int 0, .int 0])), ((u 25), .inr (5, [.ref (u 26), .ref (u 27), .int 0, .int 2, .int 0, .int 0])), ((u 26), .inl (g 0, 200, .inl (fun _ => 0))), ((u 27), .inl (g 0, 6, .inl (fun _ => 0))), ((u 28), .inl (g 0, 200, .inl (fun _ => 0))), ((u 29), .inl (g 0, 200, .inl (fun _ => 0))), ((u 30), .inr (10, [.int 0, .int 1, .int 4, .int 0, .int 2])), ((u 31), .inr (9, [.ref (u 32), .ref (u 33), .ref (u 34), .int 0, .int 0])), ((u 32), .inl (g 0, 100, .inl (fun _ => 0))), ((u 33), .inl (g 0, 200, .inl (fun _ => 0))), ((u 34), .inl (g 0, 200, .inl (fun _ => 0))), ((u 35), .inr (11, [.ref (u 36), .int 0])), ((u 36), .inl (g 0, 100, .inl (fun _ => 0))), ((u 37), .inl (g 0, 200, .inl (fun _ => 0)))]) (va_A [(t, .inr (3, [.null, .null, .null, .null, .null, .null, .null, .int 0]))] sz)) 38 3392 (va_A [(t, .inr (3, [.null, .null, .null, .null, .null, .null, .null, .int 0]))] sz) := by
  refine Met.ofW (cc := cX1_init) (maxL := 1) (ret := none) (by decide) rfl ?_
  intro p e s m args below meth c s₁ B hml hv
  obtain ⟨rfl, hsz, hP, hK, hD0, hG⟩ := hv
  have hx := B.exec
  have hb := B.bytes
  have hr := B.returns
  have hts := atoms_spec (ws := wsX1_init) B.pre
  have hown : s.vm.findClass RX1 = some m.cls := findClass_of_methodNamed B.named
  have hlocks := B.notSynchronized
  have hin : meth.name = "<init>" := (name_of_methodNamed B.named B.method).1
  subst hsz
  have hD := hD0.self (sz := s.heap.size)
  generalize hAe : va_A [(t, .inr (3, [.null, .null, .null, .null, .null, .null, .null, .int 0]))] s.heap.size = A at hD hG ⊢
  have hA : ∀ q : Nat, s.heap.size ≤ q → A q := fun q h => by rw [← hAe]; exact Or.inr h
  have hS : va_S A s.heap s.heap [] := va_S.rf
  have hl := lv_entry ([.ref t]) (n := 1) (Nat.le_of_ble_eq_true rfl)
  rw [lg_entry_eq]
  generalize (lg_sl ([.ref t]) ++ List.replicate (1 - (lg_sl ([.ref t])).length) Slot.unset).toArray = ls at hl ⊢
  have hl : lv_has ls 1 [(0, .ref t)] := hl
  have hml3 := hts (Cond.methodLink RX1 3 objectInit) (by decide +kernel)
  have hoi := hts (Cond.instanceMethod objectInit) (by decide +kernel)
  have hoc := hts (Cond.code objectInit ⟨#[0xb1]⟩ 1 none) (by decide +kernel)
  have hcl9 := hts (Cond.classLink RX1 9 RX6) (by decide +kernel)
  have hinX6 := hts (Cond.instantiable RX6 3) (by decide +kernel)
  have hiniX6 := hts (Cond.initialized RX6) (by decide +kernel)
  have hiX6 : ∀ w ∈ u_ws RX6 TX6 3, w ∈ wsX1_init := by decide +kernel
  have himX6_init := hts (Cond.instanceMethod yX6_init) (by decide +kernel)
  have hf12 := hts (Cond.fieldLink RX1 12 "RunmergeOffice$Checker" "maker" "LRunmergeOffice$RunMaker;") (by decide +kernel)
  have hiX1 : ∀ w ∈ u_ws RX1 TX1 8, w ∈ wsX1_init := by decide +kernel
  have hcl18 := hts (Cond.classLink RX1 18 RX2) (by decide +kernel)
  have hinX2 := hts (Cond.instantiable RX2 15) (by decide +kernel)
  have hiniX2 := hts (Cond.initialized RX2) (by decide +kernel)
  have hiX2 : ∀ w ∈ u_ws RX2 TX2 15, w ∈ wsX1_init := by decide +kernel
  have himX2_init := hts (Cond.instanceMethod yX2_init) (by decide +kernel)
  have hf21 := hts (Cond.fieldLink RX1 21 "RunmergeOffice$Checker" "trial" "LRunmergeOffice$Job;") (by decide +kernel)
  have hcl25 := hts (Cond.classLink RX1 25 RX4) (by decide +kernel)
  have hinX4 := hts (Cond.instantiable RX4 8) (by decide +kernel)
  have hiniX4 := hts (Cond.initialized RX4) (by decide +kernel)
  have hiX4 : ∀ w ∈ u_ws RX4 TX4 8, w ∈ wsX1_init := by decide +kernel
  have himX4_init := hts (Cond.instanceMethod yX4_init) (by decide +kernel)
  have hf28 := hts (Cond.fieldLink RX1 28 "RunmergeOffice$Checker" "told" "LRunmergeOffice$Plan;") (by decide +kernel)
  have hcl32 := hts (Cond.classLink RX1 32 RX8) (by decide +kernel)
  have hinX8 := hts (Cond.instantiable RX8 5) (by decide +kernel)
  have hiniX8 := hts (Cond.initialized RX8) (by decide +kernel)
  have hiX8 : ∀ w ∈ u_ws RX8 TX8 5, w ∈ wsX1_init := by decide +kernel
  have himX8_init := hts (Cond.instanceMethod yX8_init) (by decide +kernel)
  have hf35 := hts (Cond.fieldLink RX1 35 "RunmergeOffice$Checker" "with" "LRunmergeOffice$Settings;") (by decide +kernel)
  have hcl39 := hts (Cond.classLink RX1 39 RX7) (by decide +kernel)
  have hinX7 := hts (Cond.instantiable RX7 5) (by decide +kernel)
  have hiniX7 := hts (Cond.initialized RX7) (by decide +kernel)
  have hiX7 : ∀ w ∈ u_ws RX7 TX7 5, w ∈ wsX1_init := by decide +kernel
  have himX7_init := hts (Cond.instanceMethod yX7_init) (by decide +kernel)
  have hf42 := hts (Cond.fieldLink RX1 42 "RunmergeOffice$Checker" "runRow" "LRunmergeOffice$RunRow;") (by decide +kernel)
  have hcl46 := hts (Cond.classLink RX1 46 RX9) (by decide +kernel)
  have hinX9 := hts (Cond.instantiable RX9 2) (by decide +kernel)
  have hiniX9 := hts (Cond.initialized RX9) (by decide +kernel)
  have hiX9 : ∀ w ∈ u_ws RX9 TX9 2, w ∈ wsX1_init := by decide +kernel
  have himX9_init := hts (Cond.instanceMethod yX9_init) (by decide +kernel)
  have hf49 := hts (Cond.fieldLink RX1 49 "RunmergeOffice$Checker" "out" "LRunmergeOffice$Tape;") (by decide +kernel)
  have hnaint := hts (Cond.arrayClass (newarray.typeOf .int)) (by decide +kernel)
  have hf53 := hts (Cond.fieldLink RX1 53 "RunmergeOffice$Checker" "times" "[I") (by decide +kernel)
  have hf57 := hts (Cond.fieldLink RX1 57 "RunmergeOffice$Checker" "failures" "I") (by decide +kernel)
  refine lv_aload_n hx hb dX1_init_0 rfl (lv_at hl 0 rfl) ?_
  refine W.objInit hx hb hown hml3 hoi hoc rfl (by rw [hml]; exact hl.1) rfl dX1_init_1 (Nat.le_of_ble_eq_true rfl) (Nat.le_of_ble_eq_true rfl) ?_
  refine W.eq (g2 := F0 m 4 ls []) rfl ?_
  refine lv_aload_n hx hb dX1_init_4 rfl (lv_at hl 0 rfl) ?_
  refine va_new (ci := 8) (fs := [.null, .null, .int 0]) (C := RX6) (T := TX6) (N := 3) hx hb hts hiX6 tyX6 tyX6_ok hown hcl9 hinX6 hiniX6 hK hP hD hS hA rfl (fun j hj => by rcases (show j = 0 ∨ j = 1 ∨ j = 2 by omega) with rfl | rfl | rfl <;> rfl) (Nat.le_of_ble_eq_true rfl) (Nat.le_of_ble_eq_true rfl) dX1_init_5 (fun q_1 H_2 hP hD hS => ?_)
  have hP : va_P (dC, dI) vwCl [(t, .inr (3, [.null, .null, .null, .null, .null, .null, .null, .int 0])), (q_1, .inr (8, [.null, .null, .int 0]))] H_2 := hP
  have hD : va_D A [(t, .inr (3, [.null, .null, .null, .null, .null, .null, .null, .int 0])), (q_1, .inr (8, [.null, .null, .int 0]))] := hD
  refine W.widen (k := 1) (n := 3) (by omega) (by omega) ?_
  refine lv_dup hx hb dX1_init_8 rfl ?_
  have hPc := hP.sub (ws' := [(q_1, .inr (8, [.null, .null, .int 0]))]) [1] rfl
  have hDc := hD.sub (ws' := [(q_1, .inr (8, [.null, .null, .int 0]))]) [1] (by decide) rfl
  have hFc := va_free (wc := [(q_1, .inr (8, [.null, .null, .int 0]))]) hD hS hA [1] rfl
  refine va_callv (va_runIN (As := []) (rest := [.ref q_1, .ref t]) ⟨hx, hb, hml, hown, hts⟩ (c_X6_init l dC dI g q_1  H_2.size) ⟨va_cnB 0 hts gX1_init_X6_init_n11 rfl rfl rfl (mnl_15 hG) hiniX6 (by decide +kernel) ⟨Nat.le_of_ble_eq_true rfl, Nat.le_of_ble_eq_true rfl⟩, rfl, himX6_init⟩ ⟨PG_blind, PG_call hK hG hS hPc hDc hFc⟩ rfl rfl hl.1 rfl (lv_room (Nat.le_of_ble_eq_true rfl)) dX1_init_9 ⟨Nat.le_of_ble_eq_true rfl, Nat.le_of_ble_eq_true rfl⟩) hS (fun q _ h => hFc q h) hFc (fun u_3 t_3 H_3 L_3 ht_3 hvm_3 hw_3 hB_3 hz_3 hk_3 hS => ?_)
  obtain ⟨hP1, hD1⟩ := hB_3
  rw [ht_3] at hP1
  obtain ⟨hP, hD⟩ := va_join (wr := [(t, .inr (3, [.null, .null, .null, .null, .null, .null, .null, .int 0]))]) (w1 := [(q_1, .inr (8, [.ref (u_3 0), .ref (u_3 1), .int 0])), ((u_3 0), .inl (g 0, 50, .inl (fun _ => 0))), ((u_3 1), .inl (g 0, 50, .inl (fun _ => 0)))]) hP hD [1] [0] rfl rfl (by decide) (by decide) hk_3 hFc hP1 hD1
  have hP : va_P (dC, dI) vwCl [(t, .inr (3, [.null, .null, .null, .null, .null, .null, .null, .int 0])), (q_1, .inr (8, [.ref (u_3 0), .ref (u_3 1), .int 0])), ((u_3 0), .inl (g 0, 50, .inl (fun _ => 0))), ((u_3 1), .inl (g 0, 50, .inl (fun _ => 0)))] H_3 := hP
  have hD : va_D A [(t, .inr (3, [.null, .null, .null, .null, .null, .null, .null, .int 0])), (q_1, .inr (8, [.ref (u_3 0), .ref (u_3 1), .int 0])), ((u_3 0), .inl (g 0, 50, .inl (fun _ => 0))), ((u_3 1), .inl (g 0, 50, .inl (fun _ => 0)))] := hD
  refine W.widen (k := 3) (n := 103) (by omega) (by omega) ?_
  refine va_putF (D := (dC, dI)) (ci := 3) (v := .ref q_1) (ty := .object "RunmergeOffice$RunMaker") (C := RX1) (T := TX1) (N := 8) hx hb hts hiX1 tyX1 tyX1_ok nmX1 hown hK hP hD hS 0 rfl rfl 0 (by decide) hf12 (fun _ h9 => h9) rfl hin rfl (by decide +kernel) rfl rfl (Nat.le_of_ble_eq_true rfl) dX1_init_12 (fun H_4 L_5 hP hD hS => ?_)
  have hP : va_P (dC, dI) vwCl [(t, .inr (3, [.ref q_1, .null, .null, .null, .null, .null, .null, .int 0])), (q_1, .inr (8, [.ref (u_3 0), .ref (u_3 1), .int 0])), ((u_3 0), .inl (g 0, 50, .inl (fun _ => 0))), ((u_3 1), .inl (g 0, 50, .inl (fun _ => 0)))] H_4 := hP
  have hD : va_D A [(t, .inr (3, [.ref q_1, .null, .null, .null, .null, .null, .null, .int 0])), (q_1, .inr (8, [.ref (u_3 0), .ref (u_3 1), .int 0])), ((u_3 0), .inl (g 0, 50, .inl (fun _ => 0))), ((u_3 1), .inl (g 0, 50, .inl (fun _ => 0)))] := hD
  refine lv_aload_n hx hb dX1_init_15 rfl (lv_at hl 0 rfl) ?_
  refine va_new (ci := 4) (fs := [.null, .null, .null, .null, .int 0, .null, .null, .null, .int 0, .int 0, .int 0, .int 0, .int 0, .int 0, .int 0]) (C := RX2) (T := TX2) (N := 15) hx hb hts hiX2 tyX2 tyX2_ok hown hcl18 hinX2 hiniX2 hK hP hD hS hA rfl (fun j hj => by rcases (show j = 0 ∨ j = 1 ∨ j = 2 ∨ j = 3 ∨ j = 4 ∨ j = 5 ∨ j = 6 ∨ j = 7 ∨ j = 8 ∨ j = 9 ∨ j = 10 ∨ j = 11 ∨ j = 12 ∨ j = 13 ∨ j = 14 by omega) with rfl | rfl | rfl | rfl | rfl | rfl | rfl | rfl | rfl | rfl | rfl | rfl | rfl | rfl | rfl <;> rfl) (Nat.le_of_ble_eq_true rfl) (Nat.le_of_ble_eq_true rfl) dX1_init_16 (fun q_6 H_7 hP hD hS => ?_)
  have hP : va_P (dC, dI) vwCl [(t, .inr (3, [.ref q_1, .null, .null, .null, .null, .null, .null, .int 0])), (q_1, .inr (8, [.ref (u_3 0), .ref (u_3 1), .int 0])), ((u_3 0), .inl (g 0, 50, .inl (fun _ => 0))), ((u_3 1), .inl (g 0, 50, .inl (fun _ => 0))), (q_6, .inr (4, [.null, .null, .null, .null, .int 0, .null, .null, .null, .int 0, .int 0, .int 0, .int 0, .int 0, .int 0, .int 0]))] H_7 := hP
  have hD : va_D A [(t, .inr (3, [.ref q_1, .null, .null, .null, .null, .null, .null, .int 0])), (q_1, .inr (8, [.ref (u_3 0), .ref (u_3 1), .int 0])), ((u_3 0), .inl (g 0, 50, .inl (fun _ => 0))), ((u_3 1), .inl (g 0, 50, .inl (fun _ => 0))), (q_6, .inr (4, [.null, .null, .null, .null, .int 0, .null, .null, .null, .int 0, .int 0, .int 0, .int 0, .int 0, .int 0, .int 0]))] := hD
  refine W.widen (k := 4) (n := 118) (by omega) (by omega) ?_
  refine lv_dup hx hb dX1_init_19 rfl ?_
  have hPc := hP.sub (ws' := [(q_6, .inr (4, [.null, .null, .null, .null, .int 0, .null, .null, .null, .int 0, .int 0, .int 0, .int 0, .int 0, .int 0, .int 0]))]) [4] rfl
  have hDc := hD.sub (ws' := [(q_6, .inr (4, [.null, .null, .null, .null, .int 0, .null, .null, .null, .int 0, .int 0, .int 0, .int 0, .int 0, .int 0, .int 0]))]) [4] (by decide) rfl
  have hFc := va_free (wc := [(q_6, .inr (4, [.null, .null, .null, .null, .int 0, .null, .null, .null, .int 0, .int 0, .int 0, .int 0, .int 0, .int 0, .int 0]))]) hD hS hA [4] rfl
  refine va_callv (va_runIN (As := []) (rest := [.ref q_6, .ref t]) ⟨hx, hb, hml, hown, hts⟩ (c_X2_init l dC dI g q_6  H_7.size) ⟨va_cnB 0 hts gX1_init_X2_init_n20 rfl rfl rfl (mnl_16 hG) hiniX2 (by decide +kernel) ⟨Nat.le_of_ble_eq_true rfl, Nat.le_of_ble_eq_true rfl⟩, rfl, himX2_init⟩ ⟨PG_blind, PG_call hK hG hS hPc hDc hFc⟩ rfl rfl hl.1 rfl (lv_room (Nat.le_of_ble_eq_true rfl)) dX1_init_20 ⟨Nat.le_of_ble_eq_true rfl, Nat.le_of_ble_eq_true rfl⟩) hS (fun q _ h => hFc q h) hFc (fun u_8 t_8 H_8 L_8 ht_8 hvm_8 hw_8 hB_8 hz_8 hk_8 hS => ?_)
  obtain ⟨hP1, hD1⟩ := hB_8
  rw [ht_8] at hP1
  obtain ⟨hP, hD⟩ := va_join (wr := [(t, .inr (3, [.ref q_1, .null, .null, .null, .null, .null, .null, .int 0])), (q_1, .inr (8, [.ref (u_3 0), .ref (u_3 1), .int 0])), ((u_3 0), .inl (g 0, 50, .inl (fun _ => 0))), ((u_3 1), .inl (g 0, 50, .inl (fun _ => 0)))]) (w1 := [(q_6, .inr (4, [.ref (u_8 0), .ref (u_8 3), .ref (u_8 6), .ref (u_8 7), .int 0, .ref (u_8 8), .ref (u_8 12), .ref (u_8 16), .int 0, .int 0, .int 0, .int 0, .int 0, .int 0, .int 0])), ((u_8 0), .inr (8, [.ref (u_8 1), .ref (u_8 2), .int 0])), ((u_8 1), .inl (g 0, 50, .inl (fun _ => 0))), ((u_8 2), .inl (g 0, 50, .inl (fun _ => 0))), ((u_8 3), .inr (5, [.ref (u_8 4), .ref (u_8 5), .int 0, .int 2, .int 0, .int 0])), ((u_8 4), .inl (g 0, 200, .inl (fun _ => 0))), ((u_8 5), .inl (g 0, 6, .inl (fun _ => 0))), ((u_8 6), .inl (g 0, 6, .inl (fun _ => 0))), ((u_8 7), .inl (g 0, 6, .inl (fun _ => 0))), ((u_8 8), .inr (9, [.ref (u_8 9), .ref (u_8 10), .ref (u_8 11), .int 0, .int 0])), ((u_8 9), .inl (g 0, 100, .inl (fun _ => 0))), ((u_8 10), .inl (g 0, 200, .inl (fun _ => 0))), ((u_8 11), .inl (g 0, 200, .inl (fun _ => 0))), ((u_8 12), .inr (9, [.ref (u_8 13), .ref (u_8 14), .ref (u_8 15), .int 0, .int 0])), ((u_8 13), .inl (g 0, 100, .inl (fun _ => 0))), ((u_8 14), .inl (g 0, 200, .inl (fun _ => 0))), ((u_8 15), .inl (g 0, 200, .inl (fun _ => 0))), ((u_8 16), .inr (9, [.ref (u_8 17), .ref (u_8 18), .ref (u_8 19), .int 0, .int 0])), ((u_8 17), .inl (g 0, 100, .inl (fun _ => 0))), ((u_8 18), .inl (g 0, 200, .inl (fun _ => 0))), ((u_8 19), .inl (g 0, 200, .inl (fun _ => 0)))]) hP hD [4] [0, 1, 2, 3] rfl rfl (by decide) (by decide) hk_8 hFc hP1 hD1
  have hP : va_P (dC, dI) vwCl [(t, .inr (3, [.ref q_1, .null, .null, .null, .null, .null, .null, .int 0])), (q_1, .inr (8, [.ref (u_3 0), .ref (u_3 1), .int 0])), ((u_3 0), .inl (g 0, 50, .inl (fun _ => 0))), ((u_3 1), .inl (g 0, 50, .inl (fun _ => 0))), (q_6, .inr (4, [.ref (u_8 0), .ref (u_8 3), .ref (u_8 6), .ref (u_8 7), .int 0, .ref (u_8 8), .ref (u_8 12), .ref (u_8 16), .int 0, .int 0, .int 0, .int 0, .int 0, .int 0, .int 0])), ((u_8 0), .inr (8, [.ref (u_8 1), .ref (u_8 2), .int 0])), ((u_8 1), .inl (g 0, 50, .inl (fun _ => 0))), ((u_8 2), .inl (g 0, 50, .inl (fun _ => 0))), ((u_8 3), .inr (5, [.ref (u_8 4), .ref (u_8 5), .int 0, .int 2, .int 0, .int 0])), ((u_8 4), .inl (g 0, 200, .inl (fun _ => 0))), ((u_8 5), .inl (g 0, 6, .inl (fun _ => 0))), ((u_8 6), .inl (g 0, 6, .inl (fun _ => 0))), ((u_8 7), .inl (g 0, 6, .inl (fun _ => 0))), ((u_8 8), .inr (9, [.ref (u_8 9), .ref (u_8 10), .ref (u_8 11), .int 0, .int 0])), ((u_8 9), .inl (g 0, 100, .inl (fun _ => 0))), ((u_8 10), .inl (g 0, 200, .inl (fun _ => 0))), ((u_8 11), .inl (g 0, 200, .inl (fun _ => 0))), ((u_8 12), .inr (9, [.ref (u_8 13), .ref (u_8 14), .ref (u_8 15), .int 0, .int 0])), ((u_8 13), .inl (g 0, 100, .inl (fun _ => 0))), ((u_8 14), .inl (g 0, 200, .inl (fun _ => 0))), ((u_8 15), .inl (g 0, 200, .inl (fun _ => 0))), ((u_8 16), .inr (9, [.ref (u_8 17), .ref (u_8 18), .ref (u_8 19), .int 0, .int 0])), ((u_8 17), .inl (g 0, 100, .inl (fun _ => 0))), ((u_8 18), .inl (g 0, 200, .inl (fun _ => 0))), ((u_8 19), .inl (g 0, 200, .inl (fun _ => 0)))] H_8 := hP
  have hD : va_D A [(t, .inr (3, [.ref q_1, .null, .null, .null, .null, .null, .null, .int 0])), (q_1, .inr (8, [.ref (u_3 0), .ref (u_3 1), .int 0])), ((u_3 0), .inl (g 0, 50, .inl (fun _ => 0))), ((u_3 1), .inl (g 0, 50, .inl (fun _ => 0))), (q_6, .inr (4, [.ref (u_8 0), .ref (u_8 3), .ref (u_8 6), .ref (u_8 7), .int 0, .ref (u_8 8), .ref (u_8 12), .ref (u_8 16), .int 0, .int 0, .int 0, .int 0, .int 0, .int 0, .int 0])), ((u_8 0), .inr (8, [.ref (u_8 1), .ref (u_8 2), .int 0])), ((u_8 1), .inl (g 0, 50, .inl (fun _ => 0))), ((u_8 2), .inl (g 0, 50, .inl (fun _ => 0))), ((u_8 3), .inr (5, [.ref (u_8 4), .ref (u_8 5), .int 0, .int 2, .int 0, .int 0])), ((u_8 4), .inl (g 0, 200, .inl (fun _ => 0))), ((u_8 5), .inl (g 0, 6, .inl (fun _ => 0))), ((u_8 6), .inl (g 0, 6, .inl (fun _ => 0))), ((u_8 7), .inl (g 0, 6, .inl (fun _ => 0))), ((u_8 8), .inr (9, [.ref (u_8 9), .ref (u_8 10), .ref (u_8 11), .int 0, .int 0])), ((u_8 9), .inl (g 0, 100, .inl (fun _ => 0))), ((u_8 10), .inl (g 0, 200, .inl (fun _ => 0))), ((u_8 11), .inl (g 0, 200, .inl (fun _ => 0))), ((u_8 12), .inr (9, [.ref (u_8 13), .ref (u_8 14), .ref (u_8 15), .int 0, .int 0])), ((u_8 13), .inl (g 0, 100, .inl (fun _ => 0))), ((u_8 14), .inl (g 0, 200, .inl (fun _ => 0))), ((u_8 15), .inl (g 0, 200, .inl (fun _ => 0))), ((u_8 16), .inr (9, [.ref (u_8 17), .ref (u_8 18), .ref (u_8 19), .int 0, .int 0])), ((u_8 17), .inl (g 0, 100, .inl (fun _ => 0))), ((u_8 18), .inl (g 0, 200, .inl (fun _ => 0))), ((u_8 19), .inl (g 0, 200, .inl (fun _ => 0)))] := hD
  refine W.widen (k := 24) (n := 1960) (by omega) (by omega) ?_
  refine va_putF (D := (dC, dI)) (ci := 3) (v := .ref q_6) (ty := .object "RunmergeOffice$Job") (C := RX1) (T := TX1) (N := 8) hx hb hts hiX1 tyX1 tyX1_ok nmX1 hown hK hP hD hS 0 rfl rfl 1 (by decide) hf21 (fun _ h9 => h9) rfl hin rfl (by decide +kernel) rfl rfl (Nat.le_of_ble_eq_true rfl) dX1_init_23 (fun H_9 L_10 hP hD hS => ?_)
  have hP : va_P (dC, dI) vwCl [(t, .inr (3, [.ref q_1, .ref q_6, .null, .null, .null, .null, .null, .int 0])), (q_1, .inr (8, [.ref (u_3 0), .ref (u_3 1), .int 0])), ((u_3 0), .inl (g 0, 50, .inl (fun _ => 0))), ((u_3 1), .inl (g 0, 50, .inl (fun _ => 0))), (q_6, .inr (4, [.ref (u_8 0), .ref (u_8 3), .ref (u_8 6), .ref (u_8 7), .int 0, .ref (u_8 8), .ref (u_8 12), .ref (u_8 16), .int 0, .int 0, .int 0, .int 0, .int 0, .int 0, .int 0])), ((u_8 0), .inr (8, [.ref (u_8 1), .ref (u_8 2), .int 0])), ((u_8 1), .inl (g 0, 50, .inl (fun _ => 0))), ((u_8 2), .inl (g 0, 50, .inl (fun _ => 0))), ((u_8 3), .inr (5, [.ref (u_8 4), .ref (u_8 5), .int 0, .int 2, .int 0, .int 0])), ((u_8 4), .inl (g 0, 200, .inl (fun _ => 0))), ((u_8 5), .inl (g 0, 6, .inl (fun _ => 0))), ((u_8 6), .inl (g 0, 6, .inl (fun _ => 0))), ((u_8 7), .inl (g 0, 6, .inl (fun _ => 0))), ((u_8 8), .inr (9, [.ref (u_8 9), .ref (u_8 10), .ref (u_8 11), .int 0, .int 0])), ((u_8 9), .inl (g 0, 100, .inl (fun _ => 0))), ((u_8 10), .inl (g 0, 200, .inl (fun _ => 0))), ((u_8 11), .inl (g 0, 200, .inl (fun _ => 0))), ((u_8 12), .inr (9, [.ref (u_8 13), .ref (u_8 14), .ref (u_8 15), .int 0, .int 0])), ((u_8 13), .inl (g 0, 100, .inl (fun _ => 0))), ((u_8 14), .inl (g 0, 200, .inl (fun _ => 0))), ((u_8 15), .inl (g 0, 200, .inl (fun _ => 0))), ((u_8 16), .inr (9, [.ref (u_8 17), .ref (u_8 18), .ref (u_8 19), .int 0, .int 0])), ((u_8 17), .inl (g 0, 100, .inl (fun _ => 0))), ((u_8 18), .inl (g 0, 200, .inl (fun _ => 0))), ((u_8 19), .inl (g 0, 200, .inl (fun _ => 0)))] H_9 := hP
  have hD : va_D A [(t, .inr (3, [.ref q_1, .ref q_6, .null, .null, .null, .null, .null, .int 0])), (q_1, .inr (8, [.ref (u_3 0), .ref (u_3 1), .int 0])), ((u_3 0), .inl (g 0, 50, .inl (fun _ => 0))), ((u_3 1), .inl (g 0, 50, .inl (fun _ => 0))), (q_6, .inr (4, [.ref (u_8 0), .ref (u_8 3), .ref (u_8 6), .ref (u_8 7), .int 0, .ref (u_8 8), .ref (u_8 12), .ref (u_8 16), .int 0, .int 0, .int 0, .int 0, .int 0, .int 0, .int 0])), ((u_8 0), .inr (8, [.ref (u_8 1), .ref (u_8 2), .int 0])), ((u_8 1), .inl (g 0, 50, .inl (fun _ => 0))), ((u_8 2), .inl (g 0, 50, .inl (fun _ => 0))), ((u_8 3), .inr (5, [.ref (u_8 4), .ref (u_8 5), .int 0, .int 2, .int 0, .int 0])), ((u_8 4), .inl (g 0, 200, .inl (fun _ => 0))), ((u_8 5), .inl (g 0, 6, .inl (fun _ => 0))), ((u_8 6), .inl (g 0, 6, .inl (fun _ => 0))), ((u_8 7), .inl (g 0, 6, .inl (fun _ => 0))), ((u_8 8), .inr (9, [.ref (u_8 9), .ref (u_8 10), .ref (u_8 11), .int 0, .int 0])), ((u_8 9), .inl (g 0, 100, .inl (fun _ => 0))), ((u_8 10), .inl (g 0, 200, .inl (fun _ => 0))), ((u_8 11), .inl (g 0, 200, .inl (fun _ => 0))), ((u_8 12), .inr (9, [.ref (u_8 13), .ref (u_8 14), .ref (u_8 15), .int 0, .int 0])), ((u_8 13), .inl (g 0, 100, .inl (fun _ => 0))), ((u_8 14), .inl (g 0, 200, .inl (fun _ => 0))), ((u_8 15), .inl (g 0, 200, .inl (fun _ => 0))), ((u_8 16), .inr (9, [.ref (u_8 17), .ref (u_8 18), .ref (u_8 19), .int 0, .int 0])), ((u_8 17), .inl (g 0, 100, .inl (fun _ => 0))), ((u_8 18), .inl (g 0, 200, .inl (fun _ => 0))), ((u_8 19), .inl (g 0, 200, .inl (fun _ => 0)))] := hD
  refine lv_aload_n hx hb dX1_init_26 rfl (lv_at hl 0 rfl) ?_
  refine va_new (ci := 6) (fs := [.null, .null, .null, .int 0, .int 0, .int 0, .int 0, .int 0]) (C := RX4) (T := TX4) (N := 8) hx hb hts hiX4 tyX4 tyX4_ok hown hcl25 hinX4 hiniX4 hK hP hD hS hA rfl (fun j hj => by rcases (show j = 0 ∨ j = 1 ∨ j = 2 ∨ j = 3 ∨ j = 4 ∨ j = 5 ∨ j = 6 ∨ j = 7 by omega) with rfl | rfl | rfl | rfl | rfl | rfl | rfl | rfl <;> rfl) (Nat.le_of_ble_eq_true rfl) (Nat.le_of_ble_eq_true rfl) dX1_init_27 (fun q_11 H_12 hP hD hS => ?_)
  have hP : va_P (dC, dI) vwCl [(t, .inr (3, [.ref q_1, .ref q_6, .null, .null, .null, .null, .null, .int 0])), (q_1, .inr (8, [.ref (u_3 0), .ref (u_3 1), .int 0])), ((u_3 0), .inl (g 0, 50, .inl (fun _ => 0))), ((u_3 1), .inl (g 0, 50, .inl (fun _ => 0))), (q_6, .inr (4, [.ref (u_8 0), .ref (u_8 3), .ref (u_8 6), .ref (u_8 7), .int 0, .ref (u_8 8), .ref (u_8 12), .ref (u_8 16), .int 0, .int 0, .int 0, .int 0, .int 0, .int 0, .int 0])), ((u_8 0), .inr (8, [.ref (u_8 1), .ref (u_8 2), .int 0])), ((u_8 1), .inl (g 0, 50, .inl (fun _ => 0))), ((u_8 2), .inl (g 0, 50, .inl (fun _ => 0))), ((u_8 3), .inr (5, [.ref (u_8 4), .ref (u_8 5), .int 0, .int 2, .int 0, .int 0])), ((u_8 4), .inl (g 0, 200, .inl (fun _ => 0))), ((u_8 5), .inl (g 0, 6, .inl (fun _ => 0))), ((u_8 6), .inl (g 0, 6, .inl (fun _ => 0))), ((u_8 7), .inl (g 0, 6, .inl (fun _ => 0))), ((u_8 8), .inr (9, [.ref (u_8 9), .ref (u_8 10), .ref (u_8 11), .int 0, .int 0])), ((u_8 9), .inl (g 0, 100, .inl (fun _ => 0))), ((u_8 10), .inl (g 0, 200, .inl (fun _ => 0))), ((u_8 11), .inl (g 0, 200, .inl (fun _ => 0))), ((u_8 12), .inr (9, [.ref (u_8 13), .ref (u_8 14), .ref (u_8 15), .int 0, .int 0])), ((u_8 13), .inl (g 0, 100, .inl (fun _ => 0))), ((u_8 14), .inl (g 0, 200, .inl (fun _ => 0))), ((u_8 15), .inl (g 0, 200, .inl (fun _ => 0))), ((u_8 16), .inr (9, [.ref (u_8 17), .ref (u_8 18), .ref (u_8 19), .int 0, .int 0])), ((u_8 17), .inl (g 0, 100, .inl (fun _ => 0))), ((u_8 18), .inl (g 0, 200, .inl (fun _ => 0))), ((u_8 19), .inl (g 0, 200, .inl (fun _ => 0))), (q_11, .inr (6, [.null, .null, .null, .int 0, .int 0, .int 0, .int 0, .int 0]))] H_12 := hP
  have hD : va_D A [(t, .inr (3, [.ref q_1, .ref q_6, .null, .null, .null, .null, .null, .int 0])), (q_1, .inr (8, [.ref (u_3 0), .ref (u_3 1), .int 0])), ((u_3 0), .inl (g 0, 50, .inl (fun _ => 0))), ((u_3 1), .inl (g 0, 50, .inl (fun _ => 0))), (q_6, .inr (4, [.ref (u_8 0), .ref (u_8 3), .ref (u_8 6), .ref (u_8 7), .int 0, .ref (u_8 8), .ref (u_8 12), .ref (u_8 16), .int 0, .int 0, .int 0, .int 0, .int 0, .int 0, .int 0])), ((u_8 0), .inr (8, [.ref (u_8 1), .ref (u_8 2), .int 0])), ((u_8 1), .inl (g 0, 50, .inl (fun _ => 0))), ((u_8 2), .inl (g 0, 50, .inl (fun _ => 0))), ((u_8 3), .inr (5, [.ref (u_8 4), .ref (u_8 5), .int 0, .int 2, .int 0, .int 0])), ((u_8 4), .inl (g 0, 200, .inl (fun _ => 0))), ((u_8 5), .inl (g 0, 6, .inl (fun _ => 0))), ((u_8 6), .inl (g 0, 6, .inl (fun _ => 0))), ((u_8 7), .inl (g 0, 6, .inl (fun _ => 0))), ((u_8 8), .inr (9, [.ref (u_8 9), .ref (u_8 10), .ref (u_8 11), .int 0, .int 0])), ((u_8 9), .inl (g 0, 100, .inl (fun _ => 0))), ((u_8 10), .inl (g 0, 200, .inl (fun _ => 0))), ((u_8 11), .inl (g 0, 200, .inl (fun _ => 0))), ((u_8 12), .inr (9, [.ref (u_8 13), .ref (u_8 14), .ref (u_8 15), .int 0, .int 0])), ((u_8 13), .inl (g 0, 100, .inl (fun _ => 0))), ((u_8 14), .inl (g 0, 200, .inl (fun _ => 0))), ((u_8 15), .inl (g 0, 200, .inl (fun _ => 0))), ((u_8 16), .inr (9, [.ref (u_8 17), .ref (u_8 18), .ref (u_8 19), .int 0, .int 0])), ((u_8 17), .inl (g 0, 100, .inl (fun _ => 0))), ((u_8 18), .inl (g 0, 200, .inl (fun _ => 0))), ((u_8 19), .inl (g 0, 200, .inl (fun _ => 0))), (q_11, .inr (6, [.null, .null, .null, .int 0, .int 0, .int 0, .int 0, .int 0]))] := hD
  refine W.widen (k := 25) (n := 1968) (by omega) (by omega) ?_
  refine lv_dup hx hb dX1_init_30 rfl ?_
  have hPc := hP.sub (ws' := [(q_11, .inr (6, [.null, .null, .null, .int 0, .int 0, .int 0, .int 0, .int 0]))]) [25] rfl
  have hDc := hD.sub (ws' := [(q_11, .inr (6, [.null, .null, .null, .int 0, .int 0, .int 0, .int 0, .int 0]))]) [25] (by decide) rfl
  have hFc := va_free (wc := [(q_11, .inr (6, [.null, .null, .null, .int 0, .int 0, .int 0, .int 0, .int 0]))]) hD hS hA [25] rfl
  refine va_callv (va_runIN (As := []) (rest := [.ref q_11, .ref t]) ⟨hx, hb, hml, hown, hts⟩ (c_X4_init l dC dI g q_11  H_12.size) ⟨va_cnB 0 hts gX1_init_X4_init_n27 rfl rfl rfl (mnl_17 hG) hiniX4 (by decide +kernel) ⟨Nat.le_of_ble_eq_true rfl, Nat.le_of_ble_eq_true rfl⟩, rfl, himX4_init⟩ ⟨PG_blind, PG_call hK hG hS hPc hDc hFc⟩ rfl rfl hl.1 rfl (lv_room (Nat.le_of_ble_eq_true rfl)) dX1_init_31 ⟨Nat.le_of_ble_eq_true rfl, Nat.le_of_ble_eq_true rfl⟩) hS (fun q _ h => hFc q h) hFc (fun u_13 t_13 H_13 L_13 ht_13 hvm_13 hw_13 hB_13 hz_13 hk_13 hS => ?_)
  obtain ⟨hP1, hD1⟩ := hB_13
  rw [ht_13] at hP1
  obtain ⟨hP, hD⟩ := va_join (wr := [(t, .inr (3, [.ref q_1, .ref q_6, .null, .null, .null, .null, .null, .int 0])), (q_1, .inr (8, [.ref (u_3 0), .ref (u_3 1), .int 0])), ((u_3 0), .inl (g 0, 50, .inl (fun _ => 0))), ((u_3 1), .inl (g 0, 50, .inl (fun _ => 0))), (q_6, .inr (4, [.ref (u_8 0), .ref (u_8 3), .ref (u_8 6), .ref (u_8 7), .int 0, .ref (u_8 8), .ref (u_8 12), .ref (u_8 16), .int 0, .int 0, .int 0, .int 0, .int 0, .int 0, .int 0])), ((u_8 0), .inr (8, [.ref (u_8 1), .ref (u_8 2), .int 0])), ((u_8 1), .inl (g 0, 50, .inl (fun _ => 0))), ((u_8 2), .inl (g 0, 50, .inl (fun _ => 0))), ((u_8 3), .inr (5, [.ref (u_8 4), .ref (u_8 5), .int 0, .int 2, .int 0, .int 0])), ((u_8 4), .inl (g 0, 200, .inl (fun _ => 0))), ((u_8 5), .inl (g 0, 6, .inl (fun _ => 0))), ((u_8 6), .inl (g 0, 6, .inl (fun _ => 0))), ((u_8 7), .inl (g 0, 6, .inl (fun _ => 0))), ((u_8 8), .inr (9, [.ref (u_8 9), .ref (u_8 10), .ref (u_8 11), .int 0, .int 0])), ((u_8 9), .inl (g 0, 100, .inl (fun _ => 0))), ((u_8 10), .inl (g 0, 200, .inl (fun _ => 0))), ((u_8 11), .inl (g 0, 200, .inl (fun _ => 0))), ((u_8 12), .inr (9, [.ref (u_8 13), .ref (u_8 14), .ref (u_8 15), .int 0, .int 0])), ((u_8 13), .inl (g 0, 100, .inl (fun _ => 0))), ((u_8 14), .inl (g 0, 200, .inl (fun _ => 0))), ((u_8 15), .inl (g 0, 200, .inl (fun _ => 0))), ((u_8 16), .inr (9, [.ref (u_8 17), .ref (u_8 18), .ref (u_8 19), .int 0, .int 0])), ((u_8 17), .inl (g 0, 100, .inl (fun _ => 0))), ((u_8 18), .inl (g 0, 200, .inl (fun _ => 0))), ((u_8 19), .inl (g 0, 200, .inl (fun _ => 0)))]) (w1 := [(q_11, .inr (6, [.ref (u_13 0), .ref (u_13 3), .ref (u_13 4), .int 0, .int 0, .int 0, .int 0, .int 0])), ((u_13 0), .inr (5, [.ref (u_13 1), .ref (u_13 2), .int 0, .int 2, .int 0, .int 0])), ((u_13 1), .inl (g 0, 200, .inl (fun _ => 0))), ((u_13 2), .inl (g 0, 6, .inl (fun _ => 0))), ((u_13 3), .inl (g 0, 200, .inl (fun _ => 0))), ((u_13 4), .inl (g 0, 200, .inl (fun _ => 0)))]) hP hD [25] [0, 1, 2, 3, 4, 5, 6, 7, 8, 9, 10, 11, 12, 13, 14, 15, 16, 17, 18, 19, 20, 21, 22, 23, 24] rfl rfl (by decide) (by decide) hk_13 hFc hP1 hD1
  have hP : va_P (dC, dI) vwCl [(t, .inr (3, [.ref q_1, .ref q_6, .null, .null, .null, .null, .null, .int 0])), (q_1, .inr (8, [.ref (u_3 0), .ref (u_3 1), .int 0])), ((u_3 0), .inl (g 0, 50, .inl (fun _ => 0))), ((u_3 1), .inl (g 0, 50, .inl (fun _ => 0))), (q_6, .inr (4, [.ref (u_8 0), .ref (u_8 3), .ref (u_8 6), .ref (u_8 7), .int 0, .ref (u_8 8), .ref (u_8 12), .ref (u_8 16), .int 0, .int 0, .int 0, .int 0, .int 0, .int 0, .int 0])), ((u_8 0), .inr (8, [.ref (u_8 1), .ref (u_8 2), .int 0])), ((u_8 1), .inl (g 0, 50, .inl (fun _ => 0))), ((u_8 2), .inl (g 0, 50, .inl (fun _ => 0))), ((u_8 3), .inr (5, [.ref (u_8 4), .ref (u_8 5), .int 0, .int 2, .int 0, .int 0])), ((u_8 4), .inl (g 0, 200, .inl (fun _ => 0))), ((u_8 5), .inl (g 0, 6, .inl (fun _ => 0))), ((u_8 6), .inl (g 0, 6, .inl (fun _ => 0))), ((u_8 7), .inl (g 0, 6, .inl (fun _ => 0))), ((u_8 8), .inr (9, [.ref (u_8 9), .ref (u_8 10), .ref (u_8 11), .int 0, .int 0])), ((u_8 9), .inl (g 0, 100, .inl (fun _ => 0))), ((u_8 10), .inl (g 0, 200, .inl (fun _ => 0))), ((u_8 11), .inl (g 0, 200, .inl (fun _ => 0))), ((u_8 12), .inr (9, [.ref (u_8 13), .ref (u_8 14), .ref (u_8 15), .int 0, .int 0])), ((u_8 13), .inl (g 0, 100, .inl (fun _ => 0))), ((u_8 14), .inl (g 0, 200, .inl (fun _ => 0))), ((u_8 15), .inl (g 0, 200, .inl (fun _ => 0))), ((u_8 16), .inr (9, [.ref (u_8 17), .ref (u_8 18), .ref (u_8 19), .int 0, .int 0])), ((u_8 17), .inl (g 0, 100, .inl (fun _ => 0))), ((u_8 18), .inl (g 0, 200, .inl (fun _ => 0))), ((u_8 19), .inl (g 0, 200, .inl (fun _ => 0))), (q_11, .inr (6, [.ref (u_13 0), .ref (u_13 3), .ref (u_13 4), .int 0, .int 0, .int 0, .int 0, .int 0])), ((u_13 0), .inr (5, [.ref (u_13 1), .ref (u_13 2), .int 0, .int 2, .int 0, .int 0])), ((u_13 1), .inl (g 0, 200, .inl (fun _ => 0))), ((u_13 2), .inl (g 0, 6, .inl (fun _ => 0))), ((u_13 3), .inl (g 0, 200, .inl (fun _ => 0))), ((u_13 4), .inl (g 0, 200, .inl (fun _ => 0)))] H_13 := hP
  have hD : va_D A [(t, .inr (3, [.ref q_1, .ref q_6, .null, .null, .null, .null, .null, .int 0])), (q_1, .inr (8, [.ref (u_3 0), .ref (u_3 1), .int 0])), ((u_3 0), .inl (g 0, 50, .inl (fun _ => 0))), ((u_3 1), .inl (g 0, 50, .inl (fun _ => 0))), (q_6, .inr (4, [.ref (u_8 0), .ref (u_8 3), .ref (u_8 6), .ref (u_8 7), .int 0, .ref (u_8 8), .ref (u_8 12), .ref (u_8 16), .int 0, .int 0, .int 0, .int 0, .int 0, .int 0, .int 0])), ((u_8 0), .inr (8, [.ref (u_8 1), .ref (u_8 2), .int 0])), ((u_8 1), .inl (g 0, 50, .inl (fun _ => 0))), ((u_8 2), .inl (g 0, 50, .inl (fun _ => 0))), ((u_8 3), .inr (5, [.ref (u_8 4), .ref (u_8 5), .int 0, .int 2, .int 0, .int 0])), ((u_8 4), .inl (g 0, 200, .inl (fun _ => 0))), ((u_8 5), .inl (g 0, 6, .inl (fun _ => 0))), ((u_8 6), .inl (g 0, 6, .inl (fun _ => 0))), ((u_8 7), .inl (g 0, 6, .inl (fun _ => 0))), ((u_8 8), .inr (9, [.ref (u_8 9), .ref (u_8 10), .ref (u_8 11), .int 0, .int 0])), ((u_8 9), .inl (g 0, 100, .inl (fun _ => 0))), ((u_8 10), .inl (g 0, 200, .inl (fun _ => 0))), ((u_8 11), .inl (g 0, 200, .inl (fun _ => 0))), ((u_8 12), .inr (9, [.ref (u_8 13), .ref (u_8 14), .ref (u_8 15), .int 0, .int 0])), ((u_8 13), .inl (g 0, 100, .inl (fun _ => 0))), ((u_8 14), .inl (g 0, 200, .inl (fun _ => 0))), ((u_8 15), .inl (g 0, 200, .inl (fun _ => 0))), ((u_8 16), .inr (9, [.ref (u_8 17), .ref (u_8 18), .ref (u_8 19), .int 0, .int 0])), ((u_8 17), .inl (g 0, 100, .inl (fun _ => 0))), ((u_8 18), .inl (g 0, 200, .inl (fun _ => 0))), ((u_8 19), .inl (g 0, 200, .inl (fun _ => 0))), (q_11, .inr (6, [.ref (u_13 0), .ref (u_13 3), .ref (u_13 4), .int 0, .int 0, .int 0, .int 0, .int 0])), ((u_13 0), .inr (5, [.ref (u_13 1), .ref (u_13 2), .int 0, .int 2, .int 0, .int 0])), ((u_13 1), .inl (g 0, 200, .inl (fun _ => 0))), ((u_13 2), .inl (g 0, 6, .inl (fun _ => 0))), ((u_13 3), .inl (g 0, 200, .inl (fun _ => 0))), ((u_13 4), .inl (g 0, 200, .inl (fun _ => 0)))] := hD
  refine W.widen (k := 30) (n := 2580) (by omega) (by omega) ?_
  refine va_putF (D := (dC, dI)) (ci := 3) (v := .ref q_11) (ty := .object "RunmergeOffice$Plan") (C := RX1) (T := TX1) (N := 8) hx hb hts hiX1 tyX1 tyX1_ok nmX1 hown hK hP hD hS 0 rfl rfl 2 (by decide) hf28 (fun _ h9 => h9) rfl hin rfl (by decide +kernel) rfl rfl (Nat.le_of_ble_eq_true rfl) dX1_init_34 (fun H_14 L_15 hP hD hS => ?_)
  have hP : va_P (dC, dI) vwCl [(t, .inr (3, [.ref q_1, .ref q_6, .ref q_11, .null, .null, .null, .null, .int 0])), (q_1, .inr (8, [.ref (u_3 0), .ref (u_3 1), .int 0])), ((u_3 0), .inl (g 0, 50, .inl (fun _ => 0))), ((u_3 1), .inl (g 0, 50, .inl (fun _ => 0))), (q_6, .inr (4, [.ref (u_8 0), .ref (u_8 3), .ref (u_8 6), .ref (u_8 7), .int 0, .ref (u_8 8), .ref (u_8 12), .ref (u_8 16), .int 0, .int 0, .int 0, .int 0, .int 0, .int 0, .int 0])), ((u_8 0), .inr (8, [.ref (u_8 1), .ref (u_8 2), .int 0])), ((u_8 1), .inl (g 0, 50, .inl (fun _ => 0))), ((u_8 2), .inl (g 0, 50, .inl (fun _ => 0))), ((u_8 3), .inr (5, [.ref (u_8 4), .ref (u_8 5), .int 0, .int 2, .int 0, .int 0])), ((u_8 4), .inl (g 0, 200, .inl (fun _ => 0))), ((u_8 5), .inl (g 0, 6, .inl (fun _ => 0))), ((u_8 6), .inl (g 0, 6, .inl (fun _ => 0))), ((u_8 7), .inl (g 0, 6, .inl (fun _ => 0))), ((u_8 8), .inr (9, [.ref (u_8 9), .ref (u_8 10), .ref (u_8 11), .int 0, .int 0])), ((u_8 9), .inl (g 0, 100, .inl (fun _ => 0))), ((u_8 10), .inl (g 0, 200, .inl (fun _ => 0))), ((u_8 11), .inl (g 0, 200, .inl (fun _ => 0))), ((u_8 12), .inr (9, [.ref (u_8 13), .ref (u_8 14), .ref (u_8 15), .int 0, .int 0])), ((u_8 13), .inl (g 0, 100, .inl (fun _ => 0))), ((u_8 14), .inl (g 0, 200, .inl (fun _ => 0))), ((u_8 15), .inl (g 0, 200, .inl (fun _ => 0))), ((u_8 16), .inr (9, [.ref (u_8 17), .ref (u_8 18), .ref (u_8 19), .int 0, .int 0])), ((u_8 17), .inl (g 0, 100, .inl (fun _ => 0))), ((u_8 18), .inl (g 0, 200, .inl (fun _ => 0))), ((u_8 19), .inl (g 0, 200, .inl (fun _ => 0))), (q_11, .inr (6, [.ref (u_13 0), .ref (u_13 3), .ref (u_13 4), .int 0, .int 0, .int 0, .int 0, .int 0])), ((u_13 0), .inr (5, [.ref (u_13 1), .ref (u_13 2), .int 0, .int 2, .int 0, .int 0])), ((u_13 1), .inl (g 0, 200, .inl (fun _ => 0))), ((u_13 2), .inl (g 0, 6, .inl (fun _ => 0))), ((u_13 3), .inl (g 0, 200, .inl (fun _ => 0))), ((u_13 4), .inl (g 0, 200, .inl (fun _ => 0)))] H_14 := hP
  have hD : va_D A [(t, .inr (3, [.ref q_1, .ref q_6, .ref q_11, .null, .null, .null, .null, .int 0])), (q_1, .inr (8, [.ref (u_3 0), .ref (u_3 1), .int 0])), ((u_3 0), .inl (g 0, 50, .inl (fun _ => 0))), ((u_3 1), .inl (g 0, 50, .inl (fun _ => 0))), (q_6, .inr (4, [.ref (u_8 0), .ref (u_8 3), .ref (u_8 6), .ref (u_8 7), .int 0, .ref (u_8 8), .ref (u_8 12), .ref (u_8 16), .int 0, .int 0, .int 0, .int 0, .int 0, .int 0, .int 0])), ((u_8 0), .inr (8, [.ref (u_8 1), .ref (u_8 2), .int 0])), ((u_8 1), .inl (g 0, 50, .inl (fun _ => 0))), ((u_8 2), .inl (g 0, 50, .inl (fun _ => 0))), ((u_8 3), .inr (5, [.ref (u_8 4), .ref (u_8 5), .int 0, .int 2, .int 0, .int 0])), ((u_8 4), .inl (g 0, 200, .inl (fun _ => 0))), ((u_8 5), .inl (g 0, 6, .inl (fun _ => 0))), ((u_8 6), .inl (g 0, 6, .inl (fun _ => 0))), ((u_8 7), .inl (g 0, 6, .inl (fun _ => 0))), ((u_8 8), .inr (9, [.ref (u_8 9), .ref (u_8 10), .ref (u_8 11), .int 0, .int 0])), ((u_8 9), .inl (g 0, 100, .inl (fun _ => 0))), ((u_8 10), .inl (g 0, 200, .inl (fun _ => 0))), ((u_8 11), .inl (g 0, 200, .inl (fun _ => 0))), ((u_8 12), .inr (9, [.ref (u_8 13), .ref (u_8 14), .ref (u_8 15), .int 0, .int 0])), ((u_8 13), .inl (g 0, 100, .inl (fun _ => 0))), ((u_8 14), .inl (g 0, 200, .inl (fun _ => 0))), ((u_8 15), .inl (g 0, 200, .inl (fun _ => 0))), ((u_8 16), .inr (9, [.ref (u_8 17), .ref (u_8 18), .ref (u_8 19), .int 0, .int 0])), ((u_8 17), .inl (g 0, 100, .inl (fun _ => 0))), ((u_8 18), .inl (g 0, 200, .inl (fun _ => 0))), ((u_8 19), .inl (g 0, 200, .inl (fun _ => 0))), (q_11, .inr (6, [.ref (u_13 0), .ref (u_13 3), .ref (u_13 4), .int 0, .int 0, .int 0, .int 0, .int 0])), ((u_13 0), .inr (5, [.ref (u_13 1), .ref (u_13 2), .int 0, .int 2, .int 0, .int 0])), ((u_13 1), .inl (g 0, 200, .inl (fun _ => 0))), ((u_13 2), .inl (g 0, 6, .inl (fun _ => 0))), ((u_13 3), .inl (g 0, 200, .inl (fun _ => 0))), ((u_13 4), .inl (g 0, 200, .inl (fun _ => 0)))] := hD
  refine lv_aload_n hx hb dX1_init_37 rfl (lv_at hl 0 rfl) ?_
  refine va_new (ci := 10) (fs := [.int 0, .int 0, .int 0, .int 0, .int 0]) (C := RX8) (T := TX8) (N := 5) hx hb hts hiX8 tyX8 tyX8_ok hown hcl32 hinX8 hiniX8 hK hP hD hS hA rfl (fun j hj => by rcases (show j = 0 ∨ j = 1 ∨ j = 2 ∨ j = 3 ∨ j = 4 by omega) with rfl | rfl | rfl | rfl | rfl <;> rfl) (Nat.le_of_ble_eq_true rfl) (Nat.le_of_ble_eq_true rfl) dX1_init_38 (fun q_16 H_17 hP hD hS => ?_)
  have hP : va_P (dC, dI) vwCl [(t, .inr (3, [.ref q_1, .ref q_6, .ref q_11, .null, .null, .null, .null, .int 0])), (q_1, .inr (8, [.ref (u_3 0), .ref (u_3 1), .int 0])), ((u_3 0), .inl (g 0, 50, .inl (fun _ => 0))), ((u_3 1), .inl (g 0, 50, .inl (fun _ => 0))), (q_6, .inr (4, [.ref (u_8 0), .ref (u_8 3), .ref (u_8 6), .ref (u_8 7), .int 0, .ref (u_8 8), .ref (u_8 12), .ref (u_8 16), .int 0, .int 0, .int 0, .int 0, .int 0, .int 0, .int 0])), ((u_8 0), .inr (8, [.ref (u_8 1), .ref (u_8 2), .int 0])), ((u_8 1), .inl (g 0, 50, .inl (fun _ => 0))), ((u_8 2), .inl (g 0, 50, .inl (fun _ => 0))), ((u_8 3), .inr (5, [.ref (u_8 4), .ref (u_8 5), .int 0, .int 2, .int 0, .int 0])), ((u_8 4), .inl (g 0, 200, .inl (fun _ => 0))), ((u_8 5), .inl (g 0, 6, .inl (fun _ => 0))), ((u_8 6), .inl (g 0, 6, .inl (fun _ => 0))), ((u_8 7), .inl (g 0, 6, .inl (fun _ => 0))), ((u_8 8), .inr (9, [.ref (u_8 9), .ref (u_8 10), .ref (u_8 11), .int 0, .int 0])), ((u_8 9), .inl (g 0, 100, .inl (fun _ => 0))), ((u_8 10), .inl (g 0, 200, .inl (fun _ => 0))), ((u_8 11), .inl (g 0, 200, .inl (fun _ => 0))), ((u_8 12), .inr (9, [.ref (u_8 13), .ref (u_8 14), .ref (u_8 15), .int 0, .int 0])), ((u_8 13), .inl (g 0, 100, .inl (fun _ => 0))), ((u_8 14), .inl (g 0, 200, .inl (fun _ => 0))), ((u_8 15), .inl (g 0, 200, .inl (fun _ => 0))), ((u_8 16), .inr (9, [.ref (u_8 17), .ref (u_8 18), .ref (u_8 19), .int 0, .int 0])), ((u_8 17), .inl (g 0, 100, .inl (fun _ => 0))), ((u_8 18), .inl (g 0, 200, .inl (fun _ => 0))), ((u_8 19), .inl (g 0, 200, .inl (fun _ => 0))), (q_11, .inr (6, [.ref (u_13 0), .ref (u_13 3), .ref (u_13 4), .int 0, .int 0, .int 0, .int 0, .int 0])), ((u_13 0), .inr (5, [.ref (u_13 1), .ref (u_13 2), .int 0, .int 2, .int 0, .int 0])), ((u_13 1), .inl (g 0, 200, .inl (fun _ => 0))), ((u_13 2), .inl (g 0, 6, .inl (fun _ => 0))), ((u_13 3), .inl (g 0, 200, .inl (fun _ => 0))), ((u_13 4), .inl (g 0, 200, .inl (fun _ => 0))), (q_16, .inr (10, [.int 0, .int 0, .int 0, .int 0, .int 0]))] H_17 := hP
  have hD : va_D A [(t, .inr (3, [.ref q_1, .ref q_6, .ref q_11, .null, .null, .null, .null, .int 0])), (q_1, .inr (8, [.ref (u_3 0), .ref (u_3 1), .int 0])), ((u_3 0), .inl (g 0, 50, .inl (fun _ => 0))), ((u_3 1), .inl (g 0, 50, .inl (fun _ => 0))), (q_6, .inr (4, [.ref (u_8 0), .ref (u_8 3), .ref (u_8 6), .ref (u_8 7), .int 0, .ref (u_8 8), .ref (u_8 12), .ref (u_8 16), .int 0, .int 0, .int 0, .int 0, .int 0, .int 0, .int 0])), ((u_8 0), .inr (8, [.ref (u_8 1), .ref (u_8 2), .int 0])), ((u_8 1), .inl (g 0, 50, .inl (fun _ => 0))), ((u_8 2), .inl (g 0, 50, .inl (fun _ => 0))), ((u_8 3), .inr (5, [.ref (u_8 4), .ref (u_8 5), .int 0, .int 2, .int 0, .int 0])), ((u_8 4), .inl (g 0, 200, .inl (fun _ => 0))), ((u_8 5), .inl (g 0, 6, .inl (fun _ => 0))), ((u_8 6), .inl (g 0, 6, .inl (fun _ => 0))), ((u_8 7), .inl (g 0, 6, .inl (fun _ => 0))), ((u_8 8), .inr (9, [.ref (u_8 9), .ref (u_8 10), .ref (u_8 11), .int 0, .int 0])), ((u_8 9), .inl (g 0, 100, .inl (fun _ => 0))), ((u_8 10), .inl (g 0, 200, .inl (fun _ => 0))), ((u_8 11), .inl (g 0, 200, .inl (fun _ => 0))), ((u_8 12), .inr (9, [.ref (u_8 13), .ref (u_8 14), .ref (u_8 15), .int 0, .int 0])), ((u_8 13), .inl (g 0, 100, .inl (fun _ => 0))), ((u_8 14), .inl (g 0, 200, .inl (fun _ => 0))), ((u_8 15), .inl (g 0, 200, .inl (fun _ => 0))), ((u_8 16), .inr (9, [.ref (u_8 17), .ref (u_8 18), .ref (u_8 19), .int 0, .int 0])), ((u_8 17), .inl (g 0, 100, .inl (fun _ => 0))), ((u_8 18), .inl (g 0, 200, .inl (fun _ => 0))), ((u_8 19), .inl (g 0, 200, .inl (fun _ => 0))), (q_11, .inr (6, [.ref (u_13 0), .ref (u_13 3), .ref (u_13 4), .int 0, .int 0, .int 0, .int 0, .int 0])), ((u_13 0), .inr (5, [.ref (u_13 1), .ref (u_13 2), .int 0, .int 2, .int 0, .int 0])), ((u_13 1), .inl (g 0, 200, .inl (fun _ => 0))), ((u_13 2), .inl (g 0, 6, .inl (fun _ => 0))), ((u_13 3), .inl (g 0, 200, .inl (fun _ => 0))), ((u_13 4), .inl (g 0, 200, .inl (fun _ => 0))), (q_16, .inr (10, [.int 0, .int 0, .int 0, .int 0, .int 0]))] := hD
  refine W.widen (k := 31) (n := 2585) (by omega) (by omega) ?_
  refine lv_dup hx hb dX1_init_41 rfl ?_
  have hPc := hP.sub (ws' := [(q_16, .inr (10, [.int 0, .int 0, .int 0, .int 0, .int 0]))]) [31] rfl
  have hDc := hD.sub (ws' := [(q_16, .inr (10, [.int 0, .int 0, .int 0, .int 0, .int 0]))]) [31] (by decide) rfl
  have hFc := va_free (wc := [(q_16, .inr (10, [.int 0, .int 0, .int 0, .int 0, .int 0]))]) hD hS hA [31] rfl
  refine va_callv (va_runIN (As := []) (rest := [.ref q_16, .ref t]) ⟨hx, hb, hml, hown, hts⟩ (c_X8_init l dC dI g q_16  H_17.size) ⟨va_cnB 0 hts gX1_init_X8_init_n34 rfl rfl rfl (mnl_18 hG) hiniX8 (by decide +kernel) ⟨Nat.le_of_ble_eq_true rfl, Nat.le_of_ble_eq_true rfl⟩, rfl, himX8_init⟩ ⟨PG_blind, PG_call hK hG hS hPc hDc hFc⟩ rfl rfl hl.1 rfl (lv_room (Nat.le_of_ble_eq_true rfl)) dX1_init_42 ⟨Nat.le_of_ble_eq_true rfl, Nat.le_of_ble_eq_true rfl⟩) hS (fun q _ h => hFc q h) hFc (fun u_18 t_18 H_18 L_18 ht_18 hvm_18 hw_18 hB_18 hz_18 hk_18 hS => ?_)
  obtain ⟨hP1, hD1⟩ := hB_18
  rw [ht_18] at hP1
  obtain ⟨hP, hD⟩ := va_join (wr := [(t, .inr (3, [.ref q_1, .ref q_6, .ref q_11, .null, .null, .null, .null, .int 0])), (q_1, .inr (8, [.ref (u_3 0), .ref (u_3 1), .int 0])), ((u_3 0), .inl (g 0, 50, .inl (fun _ => 0))), ((u_3 1), .inl (g 0, 50, .inl (fun _ => 0))), (q_6, .inr (4, [.ref (u_8 0), .ref (u_8 3), .ref (u_8 6), .ref (u_8 7), .int 0, .ref (u_8 8), .ref (u_8 12), .ref (u_8 16), .int 0, .int 0, .int 0, .int 0, .int 0, .int 0, .int 0])), ((u_8 0), .inr (8, [.ref (u_8 1), .ref (u_8 2), .int 0])), ((u_8 1), .inl (g 0, 50, .inl (fun _ => 0))), ((u_8 2), .inl (g 0, 50, .inl (fun _ => 0))), ((u_8 3), .inr (5, [.ref (u_8 4), .ref (u_8 5), .int 0, .int 2, .int 0, .int 0])), ((u_8 4), .inl (g 0, 200, .inl (fun _ => 0))), ((u_8 5), .inl (g 0, 6, .inl (fun _ => 0))), ((u_8 6), .inl (g 0, 6, .inl (fun _ => 0))), ((u_8 7), .inl (g 0, 6, .inl (fun _ => 0))), ((u_8 8), .inr (9, [.ref (u_8 9), .ref (u_8 10), .ref (u_8 11), .int 0, .int 0])), ((u_8 9), .inl (g 0, 100, .inl (fun _ => 0))), ((u_8 10), .inl (g 0, 200, .inl (fun _ => 0))), ((u_8 11), .inl (g 0, 200, .inl (fun _ => 0))), ((u_8 12), .inr (9, [.ref (u_8 13), .ref (u_8 14), .ref (u_8 15), .int 0, .int 0])), ((u_8 13), .inl (g 0, 100, .inl (fun _ => 0))), ((u_8 14), .inl (g 0, 200, .inl (fun _ => 0))), ((u_8 15), .inl (g 0, 200, .inl (fun _ => 0))), ((u_8 16), .inr (9, [.ref (u_8 17), .ref (u_8 18), .ref (u_8 19), .int 0, .int 0])), ((u_8 17), .inl (g 0, 100, .inl (fun _ => 0))), ((u_8 18), .inl (g 0, 200, .inl (fun _ => 0))), ((u_8 19), .inl (g 0, 200, .inl (fun _ => 0))), (q_11, .inr (6, [.ref (u_13 0), .ref (u_13 3), .ref (u_13 4), .int 0, .int 0, .int 0, .int 0, .int 0])), ((u_13 0), .inr (5, [.ref (u_13 1), .ref (u_13 2), .int 0, .int 2, .int 0, .int 0])), ((u_13 1), .inl (g 0, 200, .inl (fun _ => 0))), ((u_13 2), .inl (g 0, 6, .inl (fun _ => 0))), ((u_13 3), .inl (g 0, 200, .inl (fun _ => 0))), ((u_13 4), .inl (g 0, 200, .inl (fun _ => 0)))]) (w1 := [(q_16, .inr (10, [.int 0, .int 1, .int 4, .int 0, .int 2]))]) hP hD [31] [0, 1, 2, 3, 4, 5, 6, 7, 8, 9, 10, 11, 12, 13, 14, 15, 16, 17, 18, 19, 20, 21, 22, 23, 24, 25, 26, 27, 28, 29, 30] rfl rfl (by decide) (by decide) hk_18 hFc hP1 hD1
  have hP : va_P (dC, dI) vwCl [(t, .inr (3, [.ref q_1, .ref q_6, .ref q_11, .null, .null, .null, .null, .int 0])), (q_1, .inr (8, [.ref (u_3 0), .ref (u_3 1), .int 0])), ((u_3 0), .inl (g 0, 50, .inl (fun _ => 0))), ((u_3 1), .inl (g 0, 50, .inl (fun _ => 0))), (q_6, .inr (4, [.ref (u_8 0), .ref (u_8 3), .ref (u_8 6), .ref (u_8 7), .int 0, .ref (u_8 8), .ref (u_8 12), .ref (u_8 16), .int 0, .int 0, .int 0, .int 0, .int 0, .int 0, .int 0])), ((u_8 0), .inr (8, [.ref (u_8 1), .ref (u_8 2), .int 0])), ((u_8 1), .inl (g 0, 50, .inl (fun _ => 0))), ((u_8 2), .inl (g 0, 50, .inl (fun _ => 0))), ((u_8 3), .inr (5, [.ref (u_8 4), .ref (u_8 5), .int 0, .int 2, .int 0, .int 0])), ((u_8 4), .inl (g 0, 200, .inl (fun _ => 0))), ((u_8 5), .inl (g 0, 6, .inl (fun _ => 0))), ((u_8 6), .inl (g 0, 6, .inl (fun _ => 0))), ((u_8 7), .inl (g 0, 6, .inl (fun _ => 0))), ((u_8 8), .inr (9, [.ref (u_8 9), .ref (u_8 10), .ref (u_8 11), .int 0, .int 0])), ((u_8 9), .inl (g 0, 100, .inl (fun _ => 0))), ((u_8 10), .inl (g 0, 200, .inl (fun _ => 0))), ((u_8 11), .inl (g 0, 200, .inl (fun _ => 0))), ((u_8 12), .inr (9, [.ref (u_8 13), .ref (u_8 14), .ref (u_8 15), .int 0, .int 0])), ((u_8 13), .inl (g 0, 100, .inl (fun _ => 0))), ((u_8 14), .inl (g 0, 200, .inl (fun _ => 0))), ((u_8 15), .inl (g 0, 200, .inl (fun _ => 0))), ((u_8 16), .inr (9, [.ref (u_8 17), .ref (u_8 18), .ref (u_8 19), .int 0, .int 0])), ((u_8 17), .inl (g 0, 100, .inl (fun _ => 0))), ((u_8 18), .inl (g 0, 200, .inl (fun _ => 0))), ((u_8 19), .inl (g 0, 200, .inl (fun _ => 0))), (q_11, .inr (6, [.ref (u_13 0), .ref (u_13 3), .ref (u_13 4), .int 0, .int 0, .int 0, .int 0, .int 0])), ((u_13 0), .inr (5, [.ref (u_13 1), .ref (u_13 2), .int 0, .int 2, .int 0, .int 0])), ((u_13 1), .inl (g 0, 200, .inl (fun _ => 0))), ((u_13 2), .inl (g 0, 6, .inl (fun _ => 0))), ((u_13 3), .inl (g 0, 200, .inl (fun _ => 0))), ((u_13 4), .inl (g 0, 200, .inl (fun _ => 0))), (q_16, .inr (10, [.int 0, .int 1, .int 4, .int 0, .int 2]))] H_18 := hP
  have hD : va_D A [(t, .inr (3, [.ref q_1, .ref q_6, .ref q_11, .null, .null, .null, .null, .int 0])), (q_1, .inr (8, [.ref (u_3 0), .ref (u_3 1), .int 0])), ((u_3 0), .inl (g 0, 50, .inl (fun _ => 0))), ((u_3 1), .inl (g 0, 50, .inl (fun _ => 0))), (q_6, .inr (4, [.ref (u_8 0), .ref (u_8 3), .ref (u_8 6), .ref (u_8 7), .int 0, .ref (u_8 8), .ref (u_8 12), .ref (u_8 16), .int 0, .int 0, .int 0, .int 0, .int 0, .int 0, .int 0])), ((u_8 0), .inr (8, [.ref (u_8 1), .ref (u_8 2), .int 0])), ((u_8 1), .inl (g 0, 50, .inl (fun _ => 0))), ((u_8 2), .inl (g 0, 50, .inl (fun _ => 0))), ((u_8 3), .inr (5, [.ref (u_8 4), .ref (u_8 5), .int 0, .int 2, .int 0, .int 0])), ((u_8 4), .inl (g 0, 200, .inl (fun _ => 0))), ((u_8 5), .inl (g 0, 6, .inl (fun _ => 0))), ((u_8 6), .inl (g 0, 6, .inl (fun _ => 0))), ((u_8 7), .inl (g 0, 6, .inl (fun _ => 0))), ((u_8 8), .inr (9, [.ref (u_8 9), .ref (u_8 10), .ref (u_8 11), .int 0, .int 0])), ((u_8 9), .inl (g 0, 100, .inl (fun _ => 0))), ((u_8 10), .inl (g 0, 200, .inl (fun _ => 0))), ((u_8 11), .inl (g 0, 200, .inl (fun _ => 0))), ((u_8 12), .inr (9, [.ref (u_8 13), .ref (u_8 14), .ref (u_8 15), .int 0, .int 0])), ((u_8 13), .inl (g 0, 100, .inl (fun _ => 0))), ((u_8 14), .inl (g 0, 200, .inl (fun _ => 0))), ((u_8 15), .inl (g 0, 200, .inl (fun _ => 0))), ((u_8 16), .inr (9, [.ref (u_8 17), .ref (u_8 18), .ref (u_8 19), .int 0, .int 0])), ((u_8 17), .inl (g 0, 100, .inl (fun _ => 0))), ((u_8 18), .inl (g 0, 200, .inl (fun _ => 0))), ((u_8 19), .inl (g 0, 200, .inl (fun _ => 0))), (q_11, .inr (6, [.ref (u_13 0), .ref (u_13 3), .ref (u_13 4), .int 0, .int 0, .int 0, .int 0, .int 0])), ((u_13 0), .inr (5, [.ref (u_13 1), .ref (u_13 2), .int 0, .int 2, .int 0, .int 0])), ((u_13 1), .inl (g 0, 200, .inl (fun _ => 0))), ((u_13 2), .inl (g 0, 6, .inl (fun _ => 0))), ((u_13 3), .inl (g 0, 200, .inl (fun _ => 0))), ((u_13 4), .inl (g 0, 200, .inl (fun _ => 0))), (q_16, .inr (10, [.int 0, .int 1, .int 4, .int 0, .int 2]))] := hD
  refine va_putF (D := (dC, dI)) (ci := 3) (v := .ref q_16) (ty := .object "RunmergeOffice$Settings") (C := RX1) (T := TX1) (N := 8) hx hb hts hiX1 tyX1 tyX1_ok nmX1 hown hK hP hD hS 0 rfl rfl 3 (by decide) hf35 (fun _ h9 => h9) rfl hin rfl (by decide +kernel) rfl rfl (Nat.le_of_ble_eq_true rfl) dX1_init_45 (fun H_19 L_20 hP hD hS => ?_)
  have hP : va_P (dC, dI) vwCl [(t, .inr (3, [.ref q_1, .ref q_6, .ref q_11, .ref q_16, .null, .null, .null, .int 0])), (q_1, .inr (8, [.ref (u_3 0), .ref (u_3 1), .int 0])), ((u_3 0), .inl (g 0, 50, .inl (fun _ => 0))), ((u_3 1), .inl (g 0, 50, .inl (fun _ => 0))), (q_6, .inr (4, [.ref (u_8 0), .ref (u_8 3), .ref (u_8 6), .ref (u_8 7), .int 0, .ref (u_8 8), .ref (u_8 12), .ref (u_8 16), .int 0, .int 0, .int 0, .int 0, .int 0, .int 0, .int 0])), ((u_8 0), .inr (8, [.ref (u_8 1), .ref (u_8 2), .int 0])), ((u_8 1), .inl (g 0, 50, .inl (fun _ => 0))), ((u_8 2), .inl (g 0, 50, .inl (fun _ => 0))), ((u_8 3), .inr (5, [.ref (u_8 4), .ref (u_8 5), .int 0, .int 2, .int 0, .int 0])), ((u_8 4), .inl (g 0, 200, .inl (fun _ => 0))), ((u_8 5), .inl (g 0, 6, .inl (fun _ => 0))), ((u_8 6), .inl (g 0, 6, .inl (fun _ => 0))), ((u_8 7), .inl (g 0, 6, .inl (fun _ => 0))), ((u_8 8), .inr (9, [.ref (u_8 9), .ref (u_8 10), .ref (u_8 11), .int 0, .int 0])), ((u_8 9), .inl (g 0, 100, .inl (fun _ => 0))), ((u_8 10), .inl (g 0, 200, .inl (fun _ => 0))), ((u_8 11), .inl (g 0, 200, .inl (fun _ => 0))), ((u_8 12), .inr (9, [.ref (u_8 13), .ref (u_8 14), .ref (u_8 15), .int 0, .int 0])), ((u_8 13), .inl (g 0, 100, .inl (fun _ => 0))), ((u_8 14), .inl (g 0, 200, .inl (fun _ => 0))), ((u_8 15), .inl (g 0, 200, .inl (fun _ => 0))), ((u_8 16), .inr (9, [.ref (u_8 17), .ref (u_8 18), .ref (u_8 19), .int 0, .int 0])), ((u_8 17), .inl (g 0, 100, .inl (fun _ => 0))), ((u_8 18), .inl (g 0, 200, .inl (fun _ => 0))), ((u_8 19), .inl (g 0, 200, .inl (fun _ => 0))), (q_11, .inr (6, [.ref (u_13 0), .ref (u_13 3), .ref (u_13 4), .int 0, .int 0, .int 0, .int 0, .int 0])), ((u_13 0), .inr (5, [.ref (u_13 1), .ref (u_13 2), .int 0, .int 2, .int 0, .int 0])), ((u_13 1), .inl (g 0, 200, .inl (fun _ => 0))), ((u_13 2), .inl (g 0, 6, .inl (fun _ => 0))), ((u_13 3), .inl (g 0, 200, .inl (fun _ => 0))), ((u_13 4), .inl (g 0, 200, .inl (fun _ => 0))), (q_16, .inr (10, [.int 0, .int 1, .int 4, .int 0, .int 2]))] H_19 := hP
  have hD : va_D A [(t, .inr (3, [.ref q_1, .ref q_6, .ref q_11, .ref q_16, .null, .null, .null, .int 0])), (q_1, .inr (8, [.ref (u_3 0), .ref (u_3 1), .int 0])), ((u_3 0), .inl (g 0, 50, .inl (fun _ => 0))), ((u_3 1), .inl (g 0, 50, .inl (fun _ => 0))), (q_6, .inr (4, [.ref (u_8 0), .ref (u_8 3), .ref (u_8 6), .ref (u_8 7), .int 0, .ref (u_8 8), .ref (u_8 12), .ref (u_8 16), .int 0, .int 0, .int 0, .int 0, .int 0, .int 0, .int 0])), ((u_8 0), .inr (8, [.ref (u_8 1), .ref (u_8 2), .int 0])), ((u_8 1), .inl (g 0, 50, .inl (fun _ => 0))), ((u_8 2), .inl (g 0, 50, .inl (fun _ => 0))), ((u_8 3), .inr (5, [.ref (u_8 4), .ref (u_8 5), .int 0, .int 2, .int 0, .int 0])), ((u_8 4), .inl (g 0, 200, .inl (fun _ => 0))), ((u_8 5), .inl (g 0, 6, .inl (fun _ => 0))), ((u_8 6), .inl (g 0, 6, .inl (fun _ => 0))), ((u_8 7), .inl (g 0, 6, .inl (fun _ => 0))), ((u_8 8), .inr (9, [.ref (u_8 9), .ref (u_8 10), .ref (u_8 11), .int 0, .int 0])), ((u_8 9), .inl (g 0, 100, .inl (fun _ => 0))), ((u_8 10), .inl (g 0, 200, .inl (fun _ => 0))), ((u_8 11), .inl (g 0, 200, .inl (fun _ => 0))), ((u_8 12), .inr (9, [.ref (u_8 13), .ref (u_8 14), .ref (u_8 15), .int 0, .int 0])), ((u_8 13), .inl (g 0, 100, .inl (fun _ => 0))), ((u_8 14), .inl (g 0, 200, .inl (fun _ => 0))), ((u_8 15), .inl (g 0, 200, .inl (fun _ => 0))), ((u_8 16), .inr (9, [.ref (u_8 17), .ref (u_8 18), .ref (u_8 19), .int 0, .int 0])), ((u_8 17), .inl (g 0, 100, .inl (fun _ => 0))), ((u_8 18), .inl (g 0, 200, .inl (fun _ => 0))), ((u_8 19), .inl (g 0, 200, .inl (fun _ => 0))), (q_11, .inr (6, [.ref (u_13 0), .ref (u_13 3), .ref (u_13 4), .int 0, .int 0, .int 0, .int 0, .int 0])), ((u_13 0), .inr (5, [.ref (u_13 1), .ref (u_13 2), .int 0, .int 2, .int 0, .int 0])), ((u_13 1), .inl (g 0, 200, .inl (fun _ => 0))), ((u_13 2), .inl (g 0, 6, .inl (fun _ => 0))), ((u_13 3), .inl (g 0, 200, .inl (fun _ => 0))), ((u_13 4), .inl (g 0, 200, .inl (fun _ => 0))), (q_16, .inr (10, [.int 0, .int 1, .int 4, .int 0, .int 2]))] := hD
  refine lv_aload_n hx hb dX1_init_48 rfl (lv_at hl 0 rfl) ?_
  refine va_new (ci := 9) (fs := [.null, .null, .null, .int 0, .int 0]) (C := RX7) (T := TX7) (N := 5) hx hb hts hiX7 tyX7 tyX7_ok hown hcl39 hinX7 hiniX7 hK hP hD hS hA rfl (fun j hj => by rcases (show j = 0 ∨ j = 1 ∨ j = 2 ∨ j = 3 ∨ j = 4 by omega) with rfl | rfl | rfl | rfl | rfl <;> rfl) (Nat.le_of_ble_eq_true rfl) (Nat.le_of_ble_eq_true rfl) dX1_init_49 (fun q_21 H_22 hP hD hS => ?_)
  have hP : va_P (dC, dI) vwCl [(t, .inr (3, [.ref q_1, .ref q_6, .ref q_11, .ref q_16, .null, .null, .null, .int 0])), (q_1, .inr (8, [.ref (u_3 0), .ref (u_3 1), .int 0])), ((u_3 0), .inl (g 0, 50, .inl (fun _ => 0))), ((u_3 1), .inl (g 0, 50, .inl (fun _ => 0))), (q_6, .inr (4, [.ref (u_8 0), .ref (u_8 3), .ref (u_8 6), .ref (u_8 7), .int 0, .ref (u_8 8), .ref (u_8 12), .ref (u_8 16), .int 0, .int 0, .int 0, .int 0, .int 0, .int 0, .int 0])), ((u_8 0), .inr (8, [.ref (u_8 1), .ref (u_8 2), .int 0])), ((u_8 1), .inl (g 0, 50, .inl (fun _ => 0))), ((u_8 2), .inl (g 0, 50, .inl (fun _ => 0))), ((u_8 3), .inr (5, [.ref (u_8 4), .ref (u_8 5), .int 0, .int 2, .int 0, .int 0])), ((u_8 4), .inl (g 0, 200, .inl (fun _ => 0))), ((u_8 5), .inl (g 0, 6, .inl (fun _ => 0))), ((u_8 6), .inl (g 0, 6, .inl (fun _ => 0))), ((u_8 7), .inl (g 0, 6, .inl (fun _ => 0))), ((u_8 8), .inr (9, [.ref (u_8 9), .ref (u_8 10), .ref (u_8 11), .int 0, .int 0])), ((u_8 9), .inl (g 0, 100, .inl (fun _ => 0))), ((u_8 10), .inl (g 0, 200, .inl (fun _ => 0))), ((u_8 11), .inl (g 0, 200, .inl (fun _ => 0))), ((u_8 12), .inr (9, [.ref (u_8 13), .ref (u_8 14), .ref (u_8 15), .int 0, .int 0])), ((u_8 13), .inl (g 0, 100, .inl (fun _ => 0))), ((u_8 14), .inl (g 0, 200, .inl (fun _ => 0))), ((u_8 15), .inl (g 0, 200, .inl (fun _ => 0))), ((u_8 16), .inr (9, [.ref (u_8 17), .ref (u_8 18), .ref (u_8 19), .int 0, .int 0])), ((u_8 17), .inl (g 0, 100, .inl (fun _ => 0))), ((u_8 18), .inl (g 0, 200, .inl (fun _ => 0))), ((u_8 19), .inl (g 0, 200, .inl (fun _ => 0))), (q_11, .inr (6, [.ref (u_13 0), .ref (u_13 3), .ref (u_13 4), .int 0, .int 0, .int 0, .int 0, .int 0])), ((u_13 0), .inr (5, [.ref (u_13 1), .ref (u_13 2), .int 0, .int 2, .int 0, .int 0])), ((u_13 1), .inl (g 0, 200, .inl (fun _ => 0))), ((u_13 2), .inl (g 0, 6, .inl (fun _ => 0))), ((u_13 3), .inl (g 0, 200, .inl (fun _ => 0))), ((u_13 4), .inl (g 0, 200, .inl (fun _ => 0))), (q_16, .inr (10, [.int 0, .int 1, .int 4, .int 0, .int 2])), (q_21, .inr (9, [.null, .null, .null, .int 0, .int 0]))] H_22 := hP
  have hD : va_D A [(t, .inr (3, [.ref q_1, .ref q_6, .ref q_11, .ref q_16, .null, .null, .null, .int 0])), (q_1, .inr (8, [.ref (u_3 0), .ref (u_3 1), .int 0])), ((u_3 0), .inl (g 0, 50, .inl (fun _ => 0))), ((u_3 1), .inl (g 0, 50, .inl (fun _ => 0))), (q_6, .inr (4, [.ref (u_8 0), .ref (u_8 3), .ref (u_8 6), .ref (u_8 7), .int 0, .ref (u_8 8), .ref (u_8 12), .ref (u_8 16), .int 0, .int 0, .int 0, .int 0, .int 0, .int 0, .int 0])), ((u_8 0), .inr (8, [.ref (u_8 1), .ref (u_8 2), .int 0])), ((u_8 1), .inl (g 0, 50, .inl (fun _ => 0))), ((u_8 2), .inl (g 0, 50, .inl (fun _ => 0))), ((u_8 3), .inr (5, [.ref (u_8 4), .ref (u_8 5), .int 0, .int 2, .int 0, .int 0])), ((u_8 4), .inl (g 0, 200, .inl (fun _ => 0))), ((u_8 5), .inl (g 0, 6, .inl (fun _ => 0))), ((u_8 6), .inl (g 0, 6, .inl (fun _ => 0))), ((u_8 7), .inl (g 0, 6, .inl (fun _ => 0))), ((u_8 8), .inr (9, [.ref (u_8 9), .ref (u_8 10), .ref (u_8 11), .int 0, .int 0])), ((u_8 9), .inl (g 0, 100, .inl (fun _ => 0))), ((u_8 10), .inl (g 0, 200, .inl (fun _ => 0))), ((u_8 11), .inl (g 0, 200, .inl (fun _ => 0))), ((u_8 12), .inr (9, [.ref (u_8 13), .ref (u_8 14), .ref (u_8 15), .int 0, .int 0])), ((u_8 13), .inl (g 0, 100, .inl (fun _ => 0))), ((u_8 14), .inl (g 0, 200, .inl (fun _ => 0))), ((u_8 15), .inl (g 0, 200, .inl (fun _ => 0))), ((u_8 16), .inr (9, [.ref (u_8 17), .ref (u_8 18), .ref (u_8 19), .int 0, .int 0])), ((u_8 17), .inl (g 0, 100, .inl (fun _ => 0))), ((u_8 18), .inl (g 0, 200, .inl (fun _ => 0))), ((u_8 19), .inl (g 0, 200, .inl (fun _ => 0))), (q_11, .inr (6, [.ref (u_13 0), .ref (u_13 3), .ref (u_13 4), .int 0, .int 0, .int 0, .int 0, .int 0])), ((u_13 0), .inr (5, [.ref (u_13 1), .ref (u_13 2), .int 0, .int 2, .int 0, .int 0])), ((u_13 1), .inl (g 0, 200, .inl (fun _ => 0))), ((u_13 2), .inl (g 0, 6, .inl (fun _ => 0))), ((u_13 3), .inl (g 0, 200, .inl (fun _ => 0))), ((u_13 4), .inl (g 0, 200, .inl (fun _ => 0))), (q_16, .inr (10, [.int 0, .int 1, .int 4, .int 0, .int 2])), (q_21, .inr (9, [.null, .null, .null, .int 0, .int 0]))] := hD
  refine W.widen (k := 32) (n := 2590) (by omega) (by omega) ?_
  refine lv_dup hx hb dX1_init_52 rfl ?_
  have hPc := hP.sub (ws' := [(q_21, .inr (9, [.null, .null, .null, .int 0, .int 0]))]) [32] rfl
  have hDc := hD.sub (ws' := [(q_21, .inr (9, [.null, .null, .null, .int 0, .int 0]))]) [32] (by decide) rfl
  have hFc := va_free (wc := [(q_21, .inr (9, [.null, .null, .null, .int 0, .int 0]))]) hD hS hA [32] rfl
  refine va_callv (va_runIN (As := []) (rest := [.ref q_21, .ref t]) ⟨hx, hb, hml, hown, hts⟩ (c_X7_init l dC dI g q_21  H_22.size) ⟨va_cnB 0 hts gX1_init_X7_init_n41 rfl rfl rfl (mnl_19 hG) hiniX7 (by decide +kernel) ⟨Nat.le_of_ble_eq_true rfl, Nat.le_of_ble_eq_true rfl⟩, rfl, himX7_init⟩ ⟨PG_blind, PG_call hK hG hS hPc hDc hFc⟩ rfl rfl hl.1 rfl (lv_room (Nat.le_of_ble_eq_true rfl)) dX1_init_53 ⟨Nat.le_of_ble_eq_true rfl, Nat.le_of_ble_eq_true rfl⟩) hS (fun q _ h => hFc q h) hFc (fun u_23 t_23 H_23 L_23 ht_23 hvm_23 hw_23 hB_23 hz_23 hk_23 hS => ?_)
  obtain ⟨hP1, hD1⟩ := hB_23
  rw [ht_23] at hP1
  obtain ⟨hP, hD⟩ := va_join (wr := [(t, .inr (3, [.ref q_1, .ref q_6, .ref q_11, .ref q_16, .null, .null, .null, .int 0])), (q_1, .inr (8, [.ref (u_3 0), .ref (u_3 1), .int 0])), ((u_3 0), .inl (g 0, 50, .inl (fun _ => 0))), ((u_3 1), .inl (g 0, 50, .inl (fun _ => 0))), (q_6, .inr (4, [.ref (u_8 0), .ref (u_8 3), .ref (u_8 6), .ref (u_8 7), .int 0, .ref (u_8 8), .ref (u_8 12), .ref (u_8 16), .int 0, .int 0, .int 0, .int 0, .int 0, .int 0, .int 0])), ((u_8 0), .inr (8, [.ref (u_8 1), .ref (u_8 2), .int 0])), ((u_8 1), .inl (g 0, 50, .inl (fun _ => 0))), ((u_8 2), .inl (g 0, 50, .inl (fun _ => 0))), ((u_8 3), .inr (5, [.ref (u_8 4), .ref (u_8 5), .int 0, .int 2, .int 0, .int 0])), ((u_8 4), .inl (g 0, 200, .inl (fun _ => 0))), ((u_8 5), .inl (g 0, 6, .inl (fun _ => 0))), ((u_8 6), .inl (g 0, 6, .inl (fun _ => 0))), ((u_8 7), .inl (g 0, 6, .inl (fun _ => 0))), ((u_8 8), .inr (9, [.ref (u_8 9), .ref (u_8 10), .ref (u_8 11), .int 0, .int 0])), ((u_8 9), .inl (g 0, 100, .inl (fun _ => 0))), ((u_8 10), .inl (g 0, 200, .inl (fun _ => 0))), ((u_8 11), .inl (g 0, 200, .inl (fun _ => 0))), ((u_8 12), .inr (9, [.ref (u_8 13), .ref (u_8 14), .ref (u_8 15), .int 0, .int 0])), ((u_8 13), .inl (g 0, 100, .inl (fun _ => 0))), ((u_8 14), .inl (g 0, 200, .inl (fun _ => 0))), ((u_8 15), .inl (g 0, 200, .inl (fun _ => 0))), ((u_8 16), .inr (9, [.ref (u_8 17), .ref (u_8 18), .ref (u_8 19), .int 0, .int 0])), ((u_8 17), .inl (g 0, 100, .inl (fun _ => 0))), ((u_8 18), .inl (g 0, 200, .inl (fun _ => 0))), ((u_8 19), .inl (g 0, 200, .inl (fun _ => 0))), (q_11, .inr (6, [.ref (u_13 0), .ref (u_13 3), .ref (u_13 4), .int 0, .int 0, .int 0, .int 0, .int 0])), ((u_13 0), .inr (5, [.ref (u_13 1), .ref (u_13 2), .int 0, .int 2, .int 0, .int 0])), ((u_13 1), .inl (g 0, 200, .inl (fun _ => 0))), ((u_13 2), .inl (g 0, 6, .inl (fun _ => 0))), ((u_13 3), .inl (g 0, 200, .inl (fun _ => 0))), ((u_13 4), .inl (g 0, 200, .inl (fun _ => 0))), (q_16, .inr (10, [.int 0, .int 1, .int 4, .int 0, .int 2]))]) (w1 := [(q_21, .inr (9, [.ref (u_23 0), .ref (u_23 1), .ref (u_23 2), .int 0, .int 0])), ((u_23 0), .inl (g 0, 100, .inl (fun _ => 0))), ((u_23 1), .inl (g 0, 200, .inl (fun _ => 0))), ((u_23 2), .inl (g 0, 200, .inl (fun _ => 0)))]) hP hD [32] [0, 1, 2, 3, 4, 5, 6, 7, 8, 9, 10, 11, 12, 13, 14, 15, 16, 17, 18, 19, 20, 21, 22, 23, 24, 25, 26, 27, 28, 29, 30, 31] rfl rfl (by decide) (by decide) hk_23 hFc hP1 hD1
  have hP : va_P (dC, dI) vwCl [(t, .inr (3, [.ref q_1, .ref q_6, .ref q_11, .ref q_16, .null, .null, .null, .int 0])), (q_1, .inr (8, [.ref (u_3 0), .ref (u_3 1), .int 0])), ((u_3 0), .inl (g 0, 50, .inl (fun _ => 0))), ((u_3 1), .inl (g 0, 50, .inl (fun _ => 0))), (q_6, .inr (4, [.ref (u_8 0), .ref (u_8 3), .ref (u_8 6), .ref (u_8 7), .int 0, .ref (u_8 8), .ref (u_8 12), .ref (u_8 16), .int 0, .int 0, .int 0, .int 0, .int 0, .int 0, .int 0])), ((u_8 0), .inr (8, [.ref (u_8 1), .ref (u_8 2), .int 0])), ((u_8 1), .inl (g 0, 50, .inl (fun _ => 0))), ((u_8 2), .inl (g 0, 50, .inl (fun _ => 0))), ((u_8 3), .inr (5, [.ref (u_8 4), .ref (u_8 5), .int 0, .int 2, .int 0, .int 0])), ((u_8 4), .inl (g 0, 200, .inl (fun _ => 0))), ((u_8 5), .inl (g 0, 6, .inl (fun _ => 0))), ((u_8 6), .inl (g 0, 6, .inl (fun _ => 0))), ((u_8 7), .inl (g 0, 6, .inl (fun _ => 0))), ((u_8 8), .inr (9, [.ref (u_8 9), .ref (u_8 10), .ref (u_8 11), .int 0, .int 0])), ((u_8 9), .inl (g 0, 100, .inl (fun _ => 0))), ((u_8 10), .inl (g 0, 200, .inl (fun _ => 0))), ((u_8 11), .inl (g 0, 200, .inl (fun _ => 0))), ((u_8 12), .inr (9, [.ref (u_8 13), .ref (u_8 14), .ref (u_8 15), .int 0, .int 0])), ((u_8 13), .inl (g 0, 100, .inl (fun _ => 0))), ((u_8 14), .inl (g 0, 200, .inl (fun _ => 0))), ((u_8 15), .inl (g 0, 200, .inl (fun _ => 0))), ((u_8 16), .inr (9, [.ref (u_8 17), .ref (u_8 18), .ref (u_8 19), .int 0, .int 0])), ((u_8 17), .inl (g 0, 100, .inl (fun _ => 0))), ((u_8 18), .inl (g 0, 200, .inl (fun _ => 0))), ((u_8 19), .inl (g 0, 200, .inl (fun _ => 0))), (q_11, .inr (6, [.ref (u_13 0), .ref (u_13 3), .ref (u_13 4), .int 0, .int 0, .int 0, .int 0, .int 0])), ((u_13 0), .inr (5, [.ref (u_13 1), .ref (u_13 2), .int 0, .int 2, .int 0, .int 0])), ((u_13 1), .inl (g 0, 200, .inl (fun _ => 0))), ((u_13 2), .inl (g 0, 6, .inl (fun _ => 0))), ((u_13 3), .inl (g 0, 200, .inl (fun _ => 0))), ((u_13 4), .inl (g 0, 200, .inl (fun _ => 0))), (q_16, .inr (10, [.int 0, .int 1, .int 4, .int 0, .int 2])), (q_21, .inr (9, [.ref (u_23 0), .ref (u_23 1), .ref (u_23 2), .int 0, .int 0])), ((u_23 0), .inl (g 0, 100, .inl (fun _ => 0))), ((u_23 1), .inl (g 0, 200, .inl (fun _ => 0))), ((u_23 2), .inl (g 0, 200, .inl (fun _ => 0)))] H_23 := hP
  have hD : va_D A [(t, .inr (3, [.ref q_1, .ref q_6, .ref q_11, .ref q_16, .null, .null, .null, .int 0])), (q_1, .inr (8, [.ref (u_3 0), .ref (u_3 1), .int 0])), ((u_3 0), .inl (g 0, 50, .inl (fun _ => 0))), ((u_3 1), .inl (g 0, 50, .inl (fun _ => 0))), (q_6, .inr (4, [.ref (u_8 0), .ref (u_8 3), .ref (u_8 6), .ref (u_8 7), .int 0, .ref (u_8 8), .ref (u_8 12), .ref (u_8 16), .int 0, .int 0, .int 0, .int 0, .int 0, .int 0, .int 0])), ((u_8 0), .inr (8, [.ref (u_8 1), .ref (u_8 2), .int 0])), ((u_8 1), .inl (g 0, 50, .inl (fun _ => 0))), ((u_8 2), .inl (g 0, 50, .inl (fun _ => 0))), ((u_8 3), .inr (5, [.ref (u_8 4), .ref (u_8 5), .int 0, .int 2, .int 0, .int 0])), ((u_8 4), .inl (g 0, 200, .inl (fun _ => 0))), ((u_8 5), .inl (g 0, 6, .inl (fun _ => 0))), ((u_8 6), .inl (g 0, 6, .inl (fun _ => 0))), ((u_8 7), .inl (g 0, 6, .inl (fun _ => 0))), ((u_8 8), .inr (9, [.ref (u_8 9), .ref (u_8 10), .ref (u_8 11), .int 0, .int 0])), ((u_8 9), .inl (g 0, 100, .inl (fun _ => 0))), ((u_8 10), .inl (g 0, 200, .inl (fun _ => 0))), ((u_8 11), .inl (g 0, 200, .inl (fun _ => 0))), ((u_8 12), .inr (9, [.ref (u_8 13), .ref (u_8 14), .ref (u_8 15), .int 0, .int 0])), ((u_8 13), .inl (g 0, 100, .inl (fun _ => 0))), ((u_8 14), .inl (g 0, 200, .inl (fun _ => 0))), ((u_8 15), .inl (g 0, 200, .inl (fun _ => 0))), ((u_8 16), .inr (9, [.ref (u_8 17), .ref (u_8 18), .ref (u_8 19), .int 0, .int 0])), ((u_8 17), .inl (g 0, 100, .inl (fun _ => 0))), ((u_8 18), .inl (g 0, 200, .inl (fun _ => 0))), ((u_8 19), .inl (g 0, 200, .inl (fun _ => 0))), (q_11, .inr (6, [.ref (u_13 0), .ref (u_13 3), .ref (u_13 4), .int 0, .int 0, .int 0, .int 0, .int 0])), ((u_13 0), .inr (5, [.ref (u_13 1), .ref (u_13 2), .int 0, .int 2, .int 0, .int 0])), ((u_13 1), .inl (g 0, 200, .inl (fun _ => 0))), ((u_13 2), .inl (g 0, 6, .inl (fun _ => 0))), ((u_13 3), .inl (g 0, 200, .inl (fun _ => 0))), ((u_13 4), .inl (g 0, 200, .inl (fun _ => 0))), (q_16, .inr (10, [.int 0, .int 1, .int 4, .int 0, .int 2])), (q_21, .inr (9, [.ref (u_23 0), .ref (u_23 1), .ref (u_23 2), .int 0, .int 0])), ((u_23 0), .inl (g 0, 100, .inl (fun _ => 0))), ((u_23 1), .inl (g 0, 200, .inl (fun _ => 0))), ((u_23 2), .inl (g 0, 200, .inl (fun _ => 0)))] := hD
  refine W.widen (k := 35) (n := 3090) (by omega) (by omega) ?_
  refine va_putF (D := (dC, dI)) (ci := 3) (v := .ref q_21) (ty := .object "RunmergeOffice$RunRow") (C := RX1) (T := TX1) (N := 8) hx hb hts hiX1 tyX1 tyX1_ok nmX1 hown hK hP hD hS 0 rfl rfl 4 (by decide) hf42 (fun _ h9 => h9) rfl hin rfl (by decide +kernel) rfl rfl (Nat.le_of_ble_eq_true rfl) dX1_init_56 (fun H_24 L_25 hP hD hS => ?_)
  have hP : va_P (dC, dI) vwCl [(t, .inr (3, [.ref q_1, .ref q_6, .ref q_11, .ref q_16, .ref q_21, .null, .null, .int 0])), (q_1, .inr (8, [.ref (u_3 0), .ref (u_3 1), .int 0])), ((u_3 0), .inl (g 0, 50, .inl (fun _ => 0))), ((u_3 1), .inl (g 0, 50, .inl (fun _ => 0))), (q_6, .inr (4, [.ref (u_8 0), .ref (u_8 3), .ref (u_8 6), .ref (u_8 7), .int 0, .ref (u_8 8), .ref (u_8 12), .ref (u_8 16), .int 0, .int 0, .int 0, .int 0, .int 0, .int 0, .int 0])), ((u_8 0), .inr (8, [.ref (u_8 1), .ref (u_8 2), .int 0])), ((u_8 1), .inl (g 0, 50, .inl (fun _ => 0))), ((u_8 2), .inl (g 0, 50, .inl (fun _ => 0))), ((u_8 3), .inr (5, [.ref (u_8 4), .ref (u_8 5), .int 0, .int 2, .int 0, .int 0])), ((u_8 4), .inl (g 0, 200, .inl (fun _ => 0))), ((u_8 5), .inl (g 0, 6, .inl (fun _ => 0))), ((u_8 6), .inl (g 0, 6, .inl (fun _ => 0))), ((u_8 7), .inl (g 0, 6, .inl (fun _ => 0))), ((u_8 8), .inr (9, [.ref (u_8 9), .ref (u_8 10), .ref (u_8 11), .int 0, .int 0])), ((u_8 9), .inl (g 0, 100, .inl (fun _ => 0))), ((u_8 10), .inl (g 0, 200, .inl (fun _ => 0))), ((u_8 11), .inl (g 0, 200, .inl (fun _ => 0))), ((u_8 12), .inr (9, [.ref (u_8 13), .ref (u_8 14), .ref (u_8 15), .int 0, .int 0])), ((u_8 13), .inl (g 0, 100, .inl (fun _ => 0))), ((u_8 14), .inl (g 0, 200, .inl (fun _ => 0))), ((u_8 15), .inl (g 0, 200, .inl (fun _ => 0))), ((u_8 16), .inr (9, [.ref (u_8 17), .ref (u_8 18), .ref (u_8 19), .int 0, .int 0])), ((u_8 17), .inl (g 0, 100, .inl (fun _ => 0))), ((u_8 18), .inl (g 0, 200, .inl (fun _ => 0))), ((u_8 19), .inl (g 0, 200, .inl (fun _ => 0))), (q_11, .inr (6, [.ref (u_13 0), .ref (u_13 3), .ref (u_13 4), .int 0, .int 0, .int 0, .int 0, .int 0])), ((u_13 0), .inr (5, [.ref (u_13 1), .ref (u_13 2), .int 0, .int 2, .int 0, .int 0])), ((u_13 1), .inl (g 0, 200, .inl (fun _ => 0))), ((u_13 2), .inl (g 0, 6, .inl (fun _ => 0))), ((u_13 3), .inl (g 0, 200, .inl (fun _ => 0))), ((u_13 4), .inl (g 0, 200, .inl (fun _ => 0))), (q_16, .inr (10, [.int 0, .int 1, .int 4, .int 0, .int 2])), (q_21, .inr (9, [.ref (u_23 0), .ref (u_23 1), .ref (u_23 2), .int 0, .int 0])), ((u_23 0), .inl (g 0, 100, .inl (fun _ => 0))), ((u_23 1), .inl (g 0, 200, .inl (fun _ => 0))), ((u_23 2), .inl (g 0, 200, .inl (fun _ => 0)))] H_24 := hP
  have hD : va_D A [(t, .inr (3, [.ref q_1, .ref q_6, .ref q_11, .ref q_16, .ref q_21, .null, .null, .int 0])), (q_1, .inr (8, [.ref (u_3 0), .ref (u_3 1), .int 0])), ((u_3 0), .inl (g 0, 50, .inl (fun _ => 0))), ((u_3 1), .inl (g 0, 50, .inl (fun _ => 0))), (q_6, .inr (4, [.ref (u_8 0), .ref (u_8 3), .ref (u_8 6), .ref (u_8 7), .int 0, .ref (u_8 8), .ref (u_8 12), .ref (u_8 16), .int 0, .int 0, .int 0, .int 0, .int 0, .int 0, .int 0])), ((u_8 0), .inr (8, [.ref (u_8 1), .ref (u_8 2), .int 0])), ((u_8 1), .inl (g 0, 50, .inl (fun _ => 0))), ((u_8 2), .inl (g 0, 50, .inl (fun _ => 0))), ((u_8 3), .inr (5, [.ref (u_8 4), .ref (u_8 5), .int 0, .int 2, .int 0, .int 0])), ((u_8 4), .inl (g 0, 200, .inl (fun _ => 0))), ((u_8 5), .inl (g 0, 6, .inl (fun _ => 0))), ((u_8 6), .inl (g 0, 6, .inl (fun _ => 0))), ((u_8 7), .inl (g 0, 6, .inl (fun _ => 0))), ((u_8 8), .inr (9, [.ref (u_8 9), .ref (u_8 10), .ref (u_8 11), .int 0, .int 0])), ((u_8 9), .inl (g 0, 100, .inl (fun _ => 0))), ((u_8 10), .inl (g 0, 200, .inl (fun _ => 0))), ((u_8 11), .inl (g 0, 200, .inl (fun _ => 0))), ((u_8 12), .inr (9, [.ref (u_8 13), .ref (u_8 14), .ref (u_8 15), .int 0, .int 0])), ((u_8 13), .inl (g 0, 100, .inl (fun _ => 0))), ((u_8 14), .inl (g 0, 200, .inl (fun _ => 0))), ((u_8 15), .inl (g 0, 200, .inl (fun _ => 0))), ((u_8 16), .inr (9, [.ref (u_8 17), .ref (u_8 18), .ref (u_8 19), .int 0, .int 0])), ((u_8 17), .inl (g 0, 100, .inl (fun _ => 0))), ((u_8 18), .inl (g 0, 200, .inl (fun _ => 0))), ((u_8 19), .inl (g 0, 200, .inl (fun _ => 0))), (q_11, .inr (6, [.ref (u_13 0), .ref (u_13 3), .ref (u_13 4), .int 0, .int 0, .int 0, .int 0, .int 0])), ((u_13 0), .inr (5, [.ref (u_13 1), .ref (u_13 2), .int 0, .int 2, .int 0, .int 0])), ((u_13 1), .inl (g 0, 200, .inl (fun _ => 0))), ((u_13 2), .inl (g 0, 6, .inl (fun _ => 0))), ((u_13 3), .inl (g 0, 200, .inl (fun _ => 0))), ((u_13 4), .inl (g 0, 200, .inl (fun _ => 0))), (q_16, .inr (10, [.int 0, .int 1, .int 4, .int 0, .int 2])), (q_21, .inr (9, [.ref (u_23 0), .ref (u_23 1), .ref (u_23 2), .int 0, .int 0])), ((u_23 0), .inl (g 0, 100, .inl (fun _ => 0))), ((u_23 1), .inl (g 0, 200, .inl (fun _ => 0))), ((u_23 2), .inl (g 0, 200, .inl (fun _ => 0)))] := hD
  refine lv_aload_n hx hb dX1_init_59 rfl (lv_at hl 0 rfl) ?_
  refine va_new (ci := 11) (fs := [.null, .int 0]) (C := RX9) (T := TX9) (N := 2) hx hb hts hiX9 tyX9 tyX9_ok hown hcl46 hinX9 hiniX9 hK hP hD hS hA rfl (fun j hj => by rcases (show j = 0 ∨ j = 1 by omega) with rfl | rfl <;> rfl) (Nat.le_of_ble_eq_true rfl) (Nat.le_of_ble_eq_true rfl) dX1_init_60 (fun q_26 H_27 hP hD hS => ?_)
  have hP : va_P (dC, dI) vwCl [(t, .inr (3, [.ref q_1, .ref q_6, .ref q_11, .ref q_16, .ref q_21, .null, .null, .int 0])), (q_1, .inr (8, [.ref (u_3 0), .ref (u_3 1), .int 0])), ((u_3 0), .inl (g 0, 50, .inl (fun _ => 0))), ((u_3 1), .inl (g 0, 50, .inl (fun _ => 0))), (q_6, .inr (4, [.ref (u_8 0), .ref (u_8 3), .ref (u_8 6), .ref (u_8 7), .int 0, .ref (u_8 8), .ref (u_8 12), .ref (u_8 16), .int 0, .int 0, .int 0, .int 0, .int 0, .int 0, .int 0])), ((u_8 0), .inr (8, [.ref (u_8 1), .ref (u_8 2), .int 0])), ((u_8 1), .inl (g 0, 50, .inl (fun _ => 0))), ((u_8 2), .inl (g 0, 50, .inl (fun _ => 0))), ((u_8 3), .inr (5, [.ref (u_8 4), .ref (u_8 5), .int 0, .int 2, .int 0, .int 0])), ((u_8 4), .inl (g 0, 200, .inl (fun _ => 0))), ((u_8 5), .inl (g 0, 6, .inl (fun _ => 0))), ((u_8 6), .inl (g 0, 6, .inl (fun _ => 0))), ((u_8 7), .inl (g 0, 6, .inl (fun _ => 0))), ((u_8 8), .inr (9, [.ref (u_8 9), .ref (u_8 10), .ref (u_8 11), .int 0, .int 0])), ((u_8 9), .inl (g 0, 100, .inl (fun _ => 0))), ((u_8 10), .inl (g 0, 200, .inl (fun _ => 0))), ((u_8 11), .inl (g 0, 200, .inl (fun _ => 0))), ((u_8 12), .inr (9, [.ref (u_8 13), .ref (u_8 14), .ref (u_8 15), .int 0, .int 0])), ((u_8 13), .inl (g 0, 100, .inl (fun _ => 0))), ((u_8 14), .inl (g 0, 200, .inl (fun _ => 0))), ((u_8 15), .inl (g 0, 200, .inl (fun _ => 0))), ((u_8 16), .inr (9, [.ref (u_8 17), .ref (u_8 18), .ref (u_8 19), .int 0, .int 0])), ((u_8 17), .inl (g 0, 100, .inl (fun _ => 0))), ((u_8 18), .inl (g 0, 200, .inl (fun _ => 0))), ((u_8 19), .inl (g 0, 200, .inl (fun _ => 0))), (q_11, .inr (6, [.ref (u_13 0), .ref (u_13 3), .ref (u_13 4), .int 0, .int 0, .int 0, .int 0, .int 0])), ((u_13 0), .inr (5, [.ref (u_13 1), .ref (u_13 2), .int 0, .int 2, .int 0, .int 0])), ((u_13 1), .inl (g 0, 200, .inl (fun _ => 0))), ((u_13 2), .inl (g 0, 6, .inl (fun _ => 0))), ((u_13 3), .inl (g 0, 200, .inl (fun _ => 0))), ((u_13 4), .inl (g 0, 200, .inl (fun _ => 0))), (q_16, .inr (10, [.int 0, .int 1, .int 4, .int 0, .int 2])), (q_21, .inr (9, [.ref (u_23 0), .ref (u_23 1), .ref (u_23 2), .int 0, .int 0])), ((u_23 0), .inl (g 0, 100, .inl (fun _ => 0))), ((u_23 1), .inl (g 0, 200, .inl (fun _ => 0))), ((u_23 2), .inl (g 0, 200, .inl (fun _ => 0))), (q_26, .inr (11, [.null, .int 0]))] H_27 := hP
  have hD : va_D A [(t, .inr (3, [.ref q_1, .ref q_6, .ref q_11, .ref q_16, .ref q_21, .null, .null, .int 0])), (q_1, .inr (8, [.ref (u_3 0), .ref (u_3 1), .int 0])), ((u_3 0), .inl (g 0, 50, .inl (fun _ => 0))), ((u_3 1), .inl (g 0, 50, .inl (fun _ => 0))), (q_6, .inr (4, [.ref (u_8 0), .ref (u_8 3), .ref (u_8 6), .ref (u_8 7), .int 0, .ref (u_8 8), .ref (u_8 12), .ref (u_8 16), .int 0, .int 0, .int 0, .int 0, .int 0, .int 0, .int 0])), ((u_8 0), .inr (8, [.ref (u_8 1), .ref (u_8 2), .int 0])), ((u_8 1), .inl (g 0, 50, .inl (fun _ => 0))), ((u_8 2), .inl (g 0, 50, .inl (fun _ => 0))), ((u_8 3), .inr (5, [.ref (u_8 4), .ref (u_8 5), .int 0, .int 2, .int 0, .int 0])), ((u_8 4), .inl (g 0, 200, .inl (fun _ => 0))), ((u_8 5), .inl (g 0, 6, .inl (fun _ => 0))), ((u_8 6), .inl (g 0, 6, .inl (fun _ => 0))), ((u_8 7), .inl (g 0, 6, .inl (fun _ => 0))), ((u_8 8), .inr (9, [.ref (u_8 9), .ref (u_8 10), .ref (u_8 11), .int 0, .int 0])), ((u_8 9), .inl (g 0, 100, .inl (fun _ => 0))), ((u_8 10), .inl (g 0, 200, .inl (fun _ => 0))), ((u_8 11), .inl (g 0, 200, .inl (fun _ => 0))), ((u_8 12), .inr (9, [.ref (u_8 13), .ref (u_8 14), .ref (u_8 15), .int 0, .int 0])), ((u_8 13), .inl (g 0, 100, .inl (fun _ => 0))), ((u_8 14), .inl (g 0, 200, .inl (fun _ => 0))), ((u_8 15), .inl (g 0, 200, .inl (fun _ => 0))), ((u_8 16), .inr (9, [.ref (u_8 17), .ref (u_8 18), .ref (u_8 19), .int 0, .int 0])), ((u_8 17), .inl (g 0, 100, .inl (fun _ => 0))), ((u_8 18), .inl (g 0, 200, .inl (fun _ => 0))), ((u_8 19), .inl (g 0, 200, .inl (fun _ => 0))), (q_11, .inr (6, [.ref (u_13 0), .ref (u_13 3), .ref (u_13 4), .int 0, .int 0, .int 0, .int 0, .int 0])), ((u_13 0), .inr (5, [.ref (u_13 1), .ref (u_13 2), .int 0, .int 2, .int 0, .int 0])), ((u_13 1), .inl (g 0, 200, .inl (fun _ => 0))), ((u_13 2), .inl (g 0, 6, .inl (fun _ => 0))), ((u_13 3), .inl (g 0, 200, .inl (fun _ => 0))), ((u_13 4), .inl (g 0, 200, .inl (fun _ => 0))), (q_16, .inr (10, [.int 0, .int 1, .int 4, .int 0, .int 2])), (q_21, .inr (9, [.ref (u_23 0), .ref (u_23 1), .ref (u_23 2), .int 0, .int 0])), ((u_23 0), .inl (g 0, 100, .inl (fun _ => 0))), ((u_23 1), .inl (g 0, 200, .inl (fun _ => 0))), ((u_23 2), .inl (g 0, 200, .inl (fun _ => 0))), (q_26, .inr (11, [.null, .int 0]))] := hD
  refine W.widen (k := 36) (n := 3092) (by omega) (by omega) ?_
  refine lv_dup hx hb dX1_init_63 rfl ?_
  have hPc := hP.sub (ws' := [(q_26, .inr (11, [.null, .int 0]))]) [36] rfl
  have hDc := hD.sub (ws' := [(q_26, .inr (11, [.null, .int 0]))]) [36] (by decide) rfl
  have hFc := va_free (wc := [(q_26, .inr (11, [.null, .int 0]))]) hD hS hA [36] rfl
  refine va_callv (va_runIN (As := []) (rest := [.ref q_26, .ref t]) ⟨hx, hb, hml, hown, hts⟩ (c_X9_init l dC dI g q_26  H_27.size) ⟨va_cnB 0 hts gX1_init_X9_init_n48 rfl rfl rfl (mnl_20 hG) hiniX9 (by decide +kernel) ⟨Nat.le_of_ble_eq_true rfl, Nat.le_of_ble_eq_true rfl⟩, rfl, himX9_init⟩ ⟨PG_blind, PG_call hK hG hS hPc hDc hFc⟩ rfl rfl hl.1 rfl (lv_room (Nat.le_of_ble_eq_true rfl)) dX1_init_64 ⟨Nat.le_of_ble_eq_true rfl, Nat.le_of_ble_eq_true rfl⟩) hS (fun q _ h => hFc q h) hFc (fun u_28 t_28 H_28 L_28 ht_28 hvm_28 hw_28 hB_28 hz_28 hk_28 hS => ?_)
  obtain ⟨hP1, hD1⟩ := hB_28
  rw [ht_28] at hP1
  obtain ⟨hP, hD⟩ := va_join (wr := [(t, .inr (3, [.ref q_1, .ref q_6, .ref q_11, .ref q_16, .ref q_21, .null, .null, .int 0])), (q_1, .inr (8, [.ref (u_3 0), .ref (u_3 1), .int 0])), ((u_3 0), .inl (g 0, 50, .inl (fun _ => 0))), ((u_3 1), .inl (g 0, 50, .inl (fun _ => 0))), (q_6, .inr (4, [.ref (u_8 0), .ref (u_8 3), .ref (u_8 6), .ref (u_8 7), .int 0, .ref (u_8 8), .ref (u_8 12), .ref (u_8 16), .int 0, .int 0, .int 0, .int 0, .int 0, .int 0, .int 0])), ((u_8 0), .inr (8, [.ref (u_8 1), .ref (u_8 2), .int 0])), ((u_8 1), .inl (g 0, 50, .inl (fun _ => 0))), ((u_8 2), .inl (g 0, 50, .inl (fun _ => 0))), ((u_8 3), .inr (5, [.ref (u_8 4), .ref (u_8 5), .int 0, .int 2, .int 0, .int 0])), ((u_8 4), .inl (g 0, 200, .inl (fun _ => 0))), ((u_8 5), .inl (g 0, 6, .inl (fun _ => 0))), ((u_8 6), .inl (g 0, 6, .inl (fun _ => 0))), ((u_8 7), .inl (g 0, 6, .inl (fun _ => 0))), ((u_8 8), .inr (9, [.ref (u_8 9), .ref (u_8 10), .ref (u_8 11), .int 0, .int 0])), ((u_8 9), .inl (g 0, 100, .inl (fun _ => 0))), ((u_8 10), .inl (g 0, 200, .inl (fun _ => 0))), ((u_8 11), .inl (g 0, 200, .inl (fun _ => 0))), ((u_8 12), .inr (9, [.ref (u_8 13), .ref (u_8 14), .ref (u_8 15), .int 0, .int 0])), ((u_8 13), .inl (g 0, 100, .inl (fun _ => 0))), ((u_8 14), .inl (g 0, 200, .inl (fun _ => 0))), ((u_8 15), .inl (g 0, 200, .inl (fun _ => 0))), ((u_8 16), .inr (9, [.ref (u_8 17), .ref (u_8 18), .ref (u_8 19), .int 0, .int 0])), ((u_8 17), .inl (g 0, 100, .inl (fun _ => 0))), ((u_8 18), .inl (g 0, 200, .inl (fun _ => 0))), ((u_8 19), .inl (g 0, 200, .inl (fun _ => 0))), (q_11, .inr (6, [.ref (u_13 0), .ref (u_13 3), .ref (u_13 4), .int 0, .int 0, .int 0, .int 0, .int 0])), ((u_13 0), .inr (5, [.ref (u_13 1), .ref (u_13 2), .int 0, .int 2, .int 0, .int 0])), ((u_13 1), .inl (g 0, 200, .inl (fun _ => 0))), ((u_13 2), .inl (g 0, 6, .inl (fun _ => 0))), ((u_13 3), .inl (g 0, 200, .inl (fun _ => 0))), ((u_13 4), .inl (g 0, 200, .inl (fun _ => 0))), (q_16, .inr (10, [.int 0, .int 1, .int 4, .int 0, .int 2])), (q_21, .inr (9, [.ref (u_23 0), .ref (u_23 1), .ref (u_23 2), .int 0, .int 0])), ((u_23 0), .inl (g 0, 100, .inl (fun _ => 0))), ((u_23 1), .inl (g 0, 200, .inl (fun _ => 0))), ((u_23 2), .inl (g 0, 200, .inl (fun _ => 0)))]) (w1 := [(q_26, .inr (11, [.ref (u_28 0), .int 0])), ((u_28 0), .inl (g 0, 100, .inl (fun _ => 0)))]) hP hD [36] [0, 1, 2, 3, 4, 5, 6, 7, 8, 9, 10, 11, 12, 13, 14, 15, 16, 17, 18, 19, 20, 21, 22, 23, 24, 25, 26, 27, 28, 29, 30, 31, 32, 33, 34, 35] rfl rfl (by decide) (by decide) hk_28 hFc hP1 hD1
  have hP : va_P (dC, dI) vwCl [(t, .inr (3, [.ref q_1, .ref q_6, .ref q_11, .ref q_16, .ref q_21, .null, .null, .int 0])), (q_1, .inr (8, [.ref (u_3 0), .ref (u_3 1), .int 0])), ((u_3 0), .inl (g 0, 50, .inl (fun _ => 0))), ((u_3 1), .inl (g 0, 50, .inl (fun _ => 0))), (q_6, .inr (4, [.ref (u_8 0), .ref (u_8 3), .ref (u_8 6), .ref (u_8 7), .int 0, .ref (u_8 8), .ref (u_8 12), .ref (u_8 16), .int 0, .int 0, .int 0, .int 0, .int 0, .int 0, .int 0])), ((u_8 0), .inr (8, [.ref (u_8 1), .ref (u_8 2), .int 0])), ((u_8 1), .inl (g 0, 50, .inl (fun _ => 0))), ((u_8 2), .inl (g 0, 50, .inl (fun _ => 0))), ((u_8 3), .inr (5, [.ref (u_8 4), .ref (u_8 5), .int 0, .int 2, .int 0, .int 0])), ((u_8 4), .inl (g 0, 200, .inl (fun _ => 0))), ((u_8 5), .inl (g 0, 6, .inl (fun _ => 0))), ((u_8 6), .inl (g 0, 6, .inl (fun _ => 0))), ((u_8 7), .inl (g 0, 6, .inl (fun _ => 0))), ((u_8 8), .inr (9, [.ref (u_8 9), .ref (u_8 10), .ref (u_8 11), .int 0, .int 0])), ((u_8 9), .inl (g 0, 100, .inl (fun _ => 0))), ((u_8 10), .inl (g 0, 200, .inl (fun _ => 0))), ((u_8 11), .inl (g 0, 200, .inl (fun _ => 0))), ((u_8 12), .inr (9, [.ref (u_8 13), .ref (u_8 14), .ref (u_8 15), .int 0, .int 0])), ((u_8 13), .inl (g 0, 100, .inl (fun _ => 0))), ((u_8 14), .inl (g 0, 200, .inl (fun _ => 0))), ((u_8 15), .inl (g 0, 200, .inl (fun _ => 0))), ((u_8 16), .inr (9, [.ref (u_8 17), .ref (u_8 18), .ref (u_8 19), .int 0, .int 0])), ((u_8 17), .inl (g 0, 100, .inl (fun _ => 0))), ((u_8 18), .inl (g 0, 200, .inl (fun _ => 0))), ((u_8 19), .inl (g 0, 200, .inl (fun _ => 0))), (q_11, .inr (6, [.ref (u_13 0), .ref (u_13 3), .ref (u_13 4), .int 0, .int 0, .int 0, .int 0, .int 0])), ((u_13 0), .inr (5, [.ref (u_13 1), .ref (u_13 2), .int 0, .int 2, .int 0, .int 0])), ((u_13 1), .inl (g 0, 200, .inl (fun _ => 0))), ((u_13 2), .inl (g 0, 6, .inl (fun _ => 0))), ((u_13 3), .inl (g 0, 200, .inl (fun _ => 0))), ((u_13 4), .inl (g 0, 200, .inl (fun _ => 0))), (q_16, .inr (10, [.int 0, .int 1, .int 4, .int 0, .int 2])), (q_21, .inr (9, [.ref (u_23 0), .ref (u_23 1), .ref (u_23 2), .int 0, .int 0])), ((u_23 0), .inl (g 0, 100, .inl (fun _ => 0))), ((u_23 1), .inl (g 0, 200, .inl (fun _ => 0))), ((u_23 2), .inl (g 0, 200, .inl (fun _ => 0))), (q_26, .inr (11, [.ref (u_28 0), .int 0])), ((u_28 0), .inl (g 0, 100, .inl (fun _ => 0)))] H_28 := hP
  have hD : va_D A [(t, .inr (3, [.ref q_1, .ref q_6, .ref q_11, .ref q_16, .ref q_21, .null, .null, .int 0])), (q_1, .inr (8, [.ref (u_3 0), .ref (u_3 1), .int 0])), ((u_3 0), .inl (g 0, 50, .inl (fun _ => 0))), ((u_3 1), .inl (g 0, 50, .inl (fun _ => 0))), (q_6, .inr (4, [.ref (u_8 0), .ref (u_8 3), .ref (u_8 6), .ref (u_8 7), .int 0, .ref (u_8 8), .ref (u_8 12), .ref (u_8 16), .int 0, .int 0, .int 0, .int 0, .int 0, .int 0, .int 0])), ((u_8 0), .inr (8, [.ref (u_8 1), .ref (u_8 2), .int 0])), ((u_8 1), .inl (g 0, 50, .inl (fun _ => 0))), ((u_8 2), .inl (g 0, 50, .inl (fun _ => 0))), ((u_8 3), .inr (5, [.ref (u_8 4), .ref (u_8 5), .int 0, .int 2, .int 0, .int 0])), ((u_8 4), .inl (g 0, 200, .inl (fun _ => 0))), ((u_8 5), .inl (g 0, 6, .inl (fun _ => 0))), ((u_8 6), .inl (g 0, 6, .inl (fun _ => 0))), ((u_8 7), .inl (g 0, 6, .inl (fun _ => 0))), ((u_8 8), .inr (9, [.ref (u_8 9), .ref (u_8 10), .ref (u_8 11), .int 0, .int 0])), ((u_8 9), .inl (g 0, 100, .inl (fun _ => 0))), ((u_8 10), .inl (g 0, 200, .inl (fun _ => 0))), ((u_8 11), .inl (g 0, 200, .inl (fun _ => 0))), ((u_8 12), .inr (9, [.ref (u_8 13), .ref (u_8 14), .ref (u_8 15), .int 0, .int 0])), ((u_8 13), .inl (g 0, 100, .inl (fun _ => 0))), ((u_8 14), .inl (g 0, 200, .inl (fun _ => 0))), ((u_8 15), .inl (g 0, 200, .inl (fun _ => 0))), ((u_8 16), .inr (9, [.ref (u_8 17), .ref (u_8 18), .ref (u_8 19), .int 0, .int 0])), ((u_8 17), .inl (g 0, 100, .inl (fun _ => 0))), ((u_8 18), .inl (g 0, 200, .inl (fun _ => 0))), ((u_8 19), .inl (g 0, 200, .inl (fun _ => 0))), (q_11, .inr (6, [.ref (u_13 0), .ref (u_13 3), .ref (u_13 4), .int 0, .int 0, .int 0, .int 0, .int 0])), ((u_13 0), .inr (5, [.ref (u_13 1), .ref (u_13 2), .int 0, .int 2, .int 0, .int 0])), ((u_13 1), .inl (g 0, 200, .inl (fun _ => 0))), ((u_13 2), .inl (g 0, 6, .inl (fun _ => 0))), ((u_13 3), .inl (g 0, 200, .inl (fun _ => 0))), ((u_13 4), .inl (g 0, 200, .inl (fun _ => 0))), (q_16, .inr (10, [.int 0, .int 1, .int 4, .int 0, .int 2])), (q_21, .inr (9, [.ref (u_23 0), .ref (u_23 1), .ref (u_23 2), .int 0, .int 0])), ((u_23 0), .inl (g 0, 100, .inl (fun _ => 0))), ((u_23 1), .inl (g 0, 200, .inl (fun _ => 0))), ((u_23 2), .inl (g 0, 200, .inl (fun _ => 0))), (q_26, .inr (11, [.ref (u_28 0), .int 0])), ((u_28 0), .inl (g 0, 100, .inl (fun _ => 0)))] := hD
  refine W.widen (k := 37) (n := 3192) (by omega) (by omega) ?_
  refine va_putF (D := (dC, dI)) (ci := 3) (v := .ref q_26) (ty := .object "RunmergeOffice$Tape") (C := RX1) (T := TX1) (N := 8) hx hb hts hiX1 tyX1 tyX1_ok nmX1 hown hK hP hD hS 0 rfl rfl 5 (by decide) hf49 (fun _ h9 => h9) rfl hin rfl (by decide +kernel) rfl rfl (Nat.le_of_ble_eq_true rfl) dX1_init_67 (fun H_29 L_30 hP hD hS => ?_)
  have hP : va_P (dC, dI) vwCl [(t, .inr (3, [.ref q_1, .ref q_6, .ref q_11, .ref q_16, .ref q_21, .ref q_26, .null, .int 0])), (q_1, .inr (8, [.ref (u_3 0), .ref (u_3 1), .int 0])), ((u_3 0), .inl (g 0, 50, .inl (fun _ => 0))), ((u_3 1), .inl (g 0, 50, .inl (fun _ => 0))), (q_6, .inr (4, [.ref (u_8 0), .ref (u_8 3), .ref (u_8 6), .ref (u_8 7), .int 0, .ref (u_8 8), .ref (u_8 12), .ref (u_8 16), .int 0, .int 0, .int 0, .int 0, .int 0, .int 0, .int 0])), ((u_8 0), .inr (8, [.ref (u_8 1), .ref (u_8 2), .int 0])), ((u_8 1), .inl (g 0, 50, .inl (fun _ => 0))), ((u_8 2), .inl (g 0, 50, .inl (fun _ => 0))), ((u_8 3), .inr (5, [.ref (u_8 4), .ref (u_8 5), .int 0, .int 2, .int 0, .int 0])), ((u_8 4), .inl (g 0, 200, .inl (fun _ => 0))), ((u_8 5), .inl (g 0, 6, .inl (fun _ => 0))), ((u_8 6), .inl (g 0, 6, .inl (fun _ => 0))), ((u_8 7), .inl (g 0, 6, .inl (fun _ => 0))), ((u_8 8), .inr (9, [.ref (u_8 9), .ref (u_8 10), .ref (u_8 11), .int 0, .int 0])), ((u_8 9), .inl (g 0, 100, .inl (fun _ => 0))), ((u_8 10), .inl (g 0, 200, .inl (fun _ => 0))), ((u_8 11), .inl (g 0, 200, .inl (fun _ => 0))), ((u_8 12), .inr (9, [.ref (u_8 13), .ref (u_8 14), .ref (u_8 15), .int 0, .int 0])), ((u_8 13), .inl (g 0, 100, .inl (fun _ => 0))), ((u_8 14), .inl (g 0, 200, .inl (fun _ => 0))), ((u_8 15), .inl (g 0, 200, .inl (fun _ => 0))), ((u_8 16), .inr (9, [.ref (u_8 17), .ref (u_8 18), .ref (u_8 19), .int 0, .int 0])), ((u_8 17), .inl (g 0, 100, .inl (fun _ => 0))), ((u_8 18), .inl (g 0, 200, .inl (fun _ => 0))), ((u_8 19), .inl (g 0, 200, .inl (fun _ => 0))), (q_11, .inr (6, [.ref (u_13 0), .ref (u_13 3), .ref (u_13 4), .int 0, .int 0, .int 0, .int 0, .int 0])), ((u_13 0), .inr (5, [.ref (u_13 1), .ref (u_13 2), .int 0, .int 2, .int 0, .int 0])), ((u_13 1), .inl (g 0, 200, .inl (fun _ => 0))), ((u_13 2), .inl (g 0, 6, .inl (fun _ => 0))), ((u_13 3), .inl (g 0, 200, .inl (fun _ => 0))), ((u_13 4), .inl (g 0, 200, .inl (fun _ => 0))), (q_16, .inr (10, [.int 0, .int 1, .int 4, .int 0, .int 2])), (q_21, .inr (9, [.ref (u_23 0), .ref (u_23 1), .ref (u_23 2), .int 0, .int 0])), ((u_23 0), .inl (g 0, 100, .inl (fun _ => 0))), ((u_23 1), .inl (g 0, 200, .inl (fun _ => 0))), ((u_23 2), .inl (g 0, 200, .inl (fun _ => 0))), (q_26, .inr (11, [.ref (u_28 0), .int 0])), ((u_28 0), .inl (g 0, 100, .inl (fun _ => 0)))] H_29 := hP
  have hD : va_D A [(t, .inr (3, [.ref q_1, .ref q_6, .ref q_11, .ref q_16, .ref q_21, .ref q_26, .null, .int 0])), (q_1, .inr (8, [.ref (u_3 0), .ref (u_3 1), .int 0])), ((u_3 0), .inl (g 0, 50, .inl (fun _ => 0))), ((u_3 1), .inl (g 0, 50, .inl (fun _ => 0))), (q_6, .inr (4, [.ref (u_8 0), .ref (u_8 3), .ref (u_8 6), .ref (u_8 7), .int 0, .ref (u_8 8), .ref (u_8 12), .ref (u_8 16), .int 0, .int 0, .int 0, .int 0, .int 0, .int 0, .int 0])), ((u_8 0), .inr (8, [.ref (u_8 1), .ref (u_8 2), .int 0])), ((u_8 1), .inl (g 0, 50, .inl (fun _ => 0))), ((u_8 2), .inl (g 0, 50, .inl (fun _ => 0))), ((u_8 3), .inr (5, [.ref (u_8 4), .ref (u_8 5), .int 0, .int 2, .int 0, .int 0])), ((u_8 4), .inl (g 0, 200, .inl (fun _ => 0))), ((u_8 5), .inl (g 0, 6, .inl (fun _ => 0))), ((u_8 6), .inl (g 0, 6, .inl (fun _ => 0))), ((u_8 7), .inl (g 0, 6, .inl (fun _ => 0))), ((u_8 8), .inr (9, [.ref (u_8 9), .ref (u_8 10), .ref (u_8 11), .int 0, .int 0])), ((u_8 9), .inl (g 0, 100, .inl (fun _ => 0))), ((u_8 10), .inl (g 0, 200, .inl (fun _ => 0))), ((u_8 11), .inl (g 0, 200, .inl (fun _ => 0))), ((u_8 12), .inr (9, [.ref (u_8 13), .ref (u_8 14), .ref (u_8 15), .int 0, .int 0])), ((u_8 13), .inl (g 0, 100, .inl (fun _ => 0))), ((u_8 14), .inl (g 0, 200, .inl (fun _ => 0))), ((u_8 15), .inl (g 0, 200, .inl (fun _ => 0))), ((u_8 16), .inr (9, [.ref (u_8 17), .ref (u_8 18), .ref (u_8 19), .int 0, .int 0])), ((u_8 17), .inl (g 0, 100, .inl (fun _ => 0))), ((u_8 18), .inl (g 0, 200, .inl (fun _ => 0))), ((u_8 19), .inl (g 0, 200, .inl (fun _ => 0))), (q_11, .inr (6, [.ref (u_13 0), .ref (u_13 3), .ref (u_13 4), .int 0, .int 0, .int 0, .int 0, .int 0])), ((u_13 0), .inr (5, [.ref (u_13 1), .ref (u_13 2), .int 0, .int 2, .int 0, .int 0])), ((u_13 1), .inl (g 0, 200, .inl (fun _ => 0))), ((u_13 2), .inl (g 0, 6, .inl (fun _ => 0))), ((u_13 3), .inl (g 0, 200, .inl (fun _ => 0))), ((u_13 4), .inl (g 0, 200, .inl (fun _ => 0))), (q_16, .inr (10, [.int 0, .int 1, .int 4, .int 0, .int 2])), (q_21, .inr (9, [.ref (u_23 0), .ref (u_23 1), .ref (u_23 2), .int 0, .int 0])), ((u_23 0), .inl (g 0, 100, .inl (fun _ => 0))), ((u_23 1), .inl (g 0, 200, .inl (fun _ => 0))), ((u_23 2), .inl (g 0, 200, .inl (fun _ => 0))), (q_26, .inr (11, [.ref (u_28 0), .int 0])), ((u_28 0), .inl (g 0, 100, .inl (fun _ => 0)))] := hD
  refine lv_aload_n hx hb dX1_init_70 rfl (lv_at hl 0 rfl) ?_
  refine lv_sipush (v := 200) hx hb dX1_init_71 (by decide) ?_
  refine va_newa (atype := .int) (a0 := (200, .inl (fun _ => 0))) hx hb hnaint rfl hK hP hD hS hA (fun _ => rfl) (by decide) (N' := 200) (by decide) (Nat.le_of_ble_eq_true rfl) (Nat.le_of_ble_eq_true rfl) (Nat.le_of_ble_eq_true rfl) dX1_init_74 (fun q_31 cA_33 H_32 hK9 hP hD hS => ?_)
  obtain rfl : g 0 = cA_33 := K_one hK9 0 6 rfl rfl
  have hP : va_P (dC, dI) vwCl [(t, .inr (3, [.ref q_1, .ref q_6, .ref q_11, .ref q_16, .ref q_21, .ref q_26, .null, .int 0])), (q_1, .inr (8, [.ref (u_3 0), .ref (u_3 1), .int 0])), ((u_3 0), .inl (g 0, 50, .inl (fun _ => 0))), ((u_3 1), .inl (g 0, 50, .inl (fun _ => 0))), (q_6, .inr (4, [.ref (u_8 0), .ref (u_8 3), .ref (u_8 6), .ref (u_8 7), .int 0, .ref (u_8 8), .ref (u_8 12), .ref (u_8 16), .int 0, .int 0, .int 0, .int 0, .int 0, .int 0, .int 0])), ((u_8 0), .inr (8, [.ref (u_8 1), .ref (u_8 2), .int 0])), ((u_8 1), .inl (g 0, 50, .inl (fun _ => 0))), ((u_8 2), .inl (g 0, 50, .inl (fun _ => 0))), ((u_8 3), .inr (5, [.ref (u_8 4), .ref (u_8 5), .int 0, .int 2, .int 0, .int 0])), ((u_8 4), .inl (g 0, 200, .inl (fun _ => 0))), ((u_8 5), .inl (g 0, 6, .inl (fun _ => 0))), ((u_8 6), .inl (g 0, 6, .inl (fun _ => 0))), ((u_8 7), .inl (g 0, 6, .inl (fun _ => 0))), ((u_8 8), .inr (9, [.ref (u_8 9), .ref (u_8 10), .ref (u_8 11), .int 0, .int 0])), ((u_8 9), .inl (g 0, 100, .inl (fun _ => 0))), ((u_8 10), .inl (g 0, 200, .inl (fun _ => 0))), ((u_8 11), .inl (g 0, 200, .inl (fun _ => 0))), ((u_8 12), .inr (9, [.ref (u_8 13), .ref (u_8 14), .ref (u_8 15), .int 0, .int 0])), ((u_8 13), .inl (g 0, 100, .inl (fun _ => 0))), ((u_8 14), .inl (g 0, 200, .inl (fun _ => 0))), ((u_8 15), .inl (g 0, 200, .inl (fun _ => 0))), ((u_8 16), .inr (9, [.ref (u_8 17), .ref (u_8 18), .ref (u_8 19), .int 0, .int 0])), ((u_8 17), .inl (g 0, 100, .inl (fun _ => 0))), ((u_8 18), .inl (g 0, 200, .inl (fun _ => 0))), ((u_8 19), .inl (g 0, 200, .inl (fun _ => 0))), (q_11, .inr (6, [.ref (u_13 0), .ref (u_13 3), .ref (u_13 4), .int 0, .int 0, .int 0, .int 0, .int 0])), ((u_13 0), .inr (5, [.ref (u_13 1), .ref (u_13 2), .int 0, .int 2, .int 0, .int 0])), ((u_13 1), .inl (g 0, 200, .inl (fun _ => 0))), ((u_13 2), .inl (g 0, 6, .inl (fun _ => 0))), ((u_13 3), .inl (g 0, 200, .inl (fun _ => 0))), ((u_13 4), .inl (g 0, 200, .inl (fun _ => 0))), (q_16, .inr (10, [.int 0, .int 1, .int 4, .int 0, .int 2])), (q_21, .inr (9, [.ref (u_23 0), .ref (u_23 1), .ref (u_23 2), .int 0, .int 0])), ((u_23 0), .inl (g 0, 100, .inl (fun _ => 0))), ((u_23 1), .inl (g 0, 200, .inl (fun _ => 0))), ((u_23 2), .inl (g 0, 200, .inl (fun _ => 0))), (q_26, .inr (11, [.ref (u_28 0), .int 0])), ((u_28 0), .inl (g 0, 100, .inl (fun _ => 0))), (q_31, .inl (g 0, 200, .inl (fun _ => 0)))] H_32 := hP
  have hD : va_D A [(t, .inr (3, [.ref q_1, .ref q_6, .ref q_11, .ref q_16, .ref q_21, .ref q_26, .null, .int 0])), (q_1, .inr (8, [.ref (u_3 0), .ref (u_3 1), .int 0])), ((u_3 0), .inl (g 0, 50, .inl (fun _ => 0))), ((u_3 1), .inl (g 0, 50, .inl (fun _ => 0))), (q_6, .inr (4, [.ref (u_8 0), .ref (u_8 3), .ref (u_8 6), .ref (u_8 7), .int 0, .ref (u_8 8), .ref (u_8 12), .ref (u_8 16), .int 0, .int 0, .int 0, .int 0, .int 0, .int 0, .int 0])), ((u_8 0), .inr (8, [.ref (u_8 1), .ref (u_8 2), .int 0])), ((u_8 1), .inl (g 0, 50, .inl (fun _ => 0))), ((u_8 2), .inl (g 0, 50, .inl (fun _ => 0))), ((u_8 3), .inr (5, [.ref (u_8 4), .ref (u_8 5), .int 0, .int 2, .int 0, .int 0])), ((u_8 4), .inl (g 0, 200, .inl (fun _ => 0))), ((u_8 5), .inl (g 0, 6, .inl (fun _ => 0))), ((u_8 6), .inl (g 0, 6, .inl (fun _ => 0))), ((u_8 7), .inl (g 0, 6, .inl (fun _ => 0))), ((u_8 8), .inr (9, [.ref (u_8 9), .ref (u_8 10), .ref (u_8 11), .int 0, .int 0])), ((u_8 9), .inl (g 0, 100, .inl (fun _ => 0))), ((u_8 10), .inl (g 0, 200, .inl (fun _ => 0))), ((u_8 11), .inl (g 0, 200, .inl (fun _ => 0))), ((u_8 12), .inr (9, [.ref (u_8 13), .ref (u_8 14), .ref (u_8 15), .int 0, .int 0])), ((u_8 13), .inl (g 0, 100, .inl (fun _ => 0))), ((u_8 14), .inl (g 0, 200, .inl (fun _ => 0))), ((u_8 15), .inl (g 0, 200, .inl (fun _ => 0))), ((u_8 16), .inr (9, [.ref (u_8 17), .ref (u_8 18), .ref (u_8 19), .int 0, .int 0])), ((u_8 17), .inl (g 0, 100, .inl (fun _ => 0))), ((u_8 18), .inl (g 0, 200, .inl (fun _ => 0))), ((u_8 19), .inl (g 0, 200, .inl (fun _ => 0))), (q_11, .inr (6, [.ref (u_13 0), .ref (u_13 3), .ref (u_13 4), .int 0, .int 0, .int 0, .int 0, .int 0])), ((u_13 0), .inr (5, [.ref (u_13 1), .ref (u_13 2), .int 0, .int 2, .int 0, .int 0])), ((u_13 1), .inl (g 0, 200, .inl (fun _ => 0))), ((u_13 2), .inl (g 0, 6, .inl (fun _ => 0))), ((u_13 3), .inl (g 0, 200, .inl (fun _ => 0))), ((u_13 4), .inl (g 0, 200, .inl (fun _ => 0))), (q_16, .inr (10, [.int 0, .int 1, .int 4, .int 0, .int 2])), (q_21, .inr (9, [.ref (u_23 0), .ref (u_23 1), .ref (u_23 2), .int 0, .int 0])), ((u_23 0), .inl (g 0, 100, .inl (fun _ => 0))), ((u_23 1), .inl (g 0, 200, .inl (fun _ => 0))), ((u_23 2), .inl (g 0, 200, .inl (fun _ => 0))), (q_26, .inr (11, [.ref (u_28 0), .int 0])), ((u_28 0), .inl (g 0, 100, .inl (fun _ => 0))), (q_31, .inl (g 0, 200, .inl (fun _ => 0)))] := hD
  refine W.widen (k := 38) (n := 3392) (by omega) (by omega) ?_
  refine va_putF (D := (dC, dI)) (ci := 3) (v := .ref q_31) (ty := .array .int) (C := RX1) (T := TX1) (N := 8) hx hb hts hiX1 tyX1 tyX1_ok nmX1 hown hK hP hD hS 0 rfl rfl 6 (by decide) hf53 (fun _ h9 => h9) rfl hin rfl (by decide +kernel) rfl rfl (Nat.le_of_ble_eq_true rfl) dX1_init_76 (fun H_34 L_35 hP hD hS => ?_)
  have hP : va_P (dC, dI) vwCl [(t, .inr (3, [.ref q_1, .ref q_6, .ref q_11, .ref q_16, .ref q_21, .ref q_26, .ref q_31, .int 0])), (q_1, .inr (8, [.ref (u_3 0), .ref (u_3 1), .int 0])), ((u_3 0), .inl (g 0, 50, .inl (fun _ => 0))), ((u_3 1), .inl (g 0, 50, .inl (fun _ => 0))), (q_6, .inr (4, [.ref (u_8 0), .ref (u_8 3), .ref (u_8 6), .ref (u_8 7), .int 0, .ref (u_8 8), .ref (u_8 12), .ref (u_8 16), .int 0, .int 0, .int 0, .int 0, .int 0, .int 0, .int 0])), ((u_8 0), .inr (8, [.ref (u_8 1), .ref (u_8 2), .int 0])), ((u_8 1), .inl (g 0, 50, .inl (fun _ => 0))), ((u_8 2), .inl (g 0, 50, .inl (fun _ => 0))), ((u_8 3), .inr (5, [.ref (u_8 4), .ref (u_8 5), .int 0, .int 2, .int 0, .int 0])), ((u_8 4), .inl (g 0, 200, .inl (fun _ => 0))), ((u_8 5), .inl (g 0, 6, .inl (fun _ => 0))), ((u_8 6), .inl (g 0, 6, .inl (fun _ => 0))), ((u_8 7), .inl (g 0, 6, .inl (fun _ => 0))), ((u_8 8), .inr (9, [.ref (u_8 9), .ref (u_8 10), .ref (u_8 11), .int 0, .int 0])), ((u_8 9), .inl (g 0, 100, .inl (fun _ => 0))), ((u_8 10), .inl (g 0, 200, .inl (fun _ => 0))), ((u_8 11), .inl (g 0, 200, .inl (fun _ => 0))), ((u_8 12), .inr (9, [.ref (u_8 13), .ref (u_8 14), .ref (u_8 15), .int 0, .int 0])), ((u_8 13), .inl (g 0, 100, .inl (fun _ => 0))), ((u_8 14), .inl (g 0, 200, .inl (fun _ => 0))), ((u_8 15), .inl (g 0, 200, .inl (fun _ => 0))), ((u_8 16), .inr (9, [.ref (u_8 17), .ref (u_8 18), .ref (u_8 19), .int 0, .int 0])), ((u_8 17), .inl (g 0, 100, .inl (fun _ => 0))), ((u_8 18), .inl (g 0, 200, .inl (fun _ => 0))), ((u_8 19), .inl (g 0, 200, .inl (fun _ => 0))), (q_11, .inr (6, [.ref (u_13 0), .ref (u_13 3), .ref (u_13 4), .int 0, .int 0, .int 0, .int 0, .int 0])), ((u_13 0), .inr (5, [.ref (u_13 1), .ref (u_13 2), .int 0, .int 2, .int 0, .int 0])), ((u_13 1), .inl (g 0, 200, .inl (fun _ => 0))), ((u_13 2), .inl (g 0, 6, .inl (fun _ => 0))), ((u_13 3), .inl (g 0, 200, .inl (fun _ => 0))), ((u_13 4), .inl (g 0, 200, .inl (fun _ => 0))), (q_16, .inr (10, [.int 0, .int 1, .int 4, .int 0, .int 2])), (q_21, .inr (9, [.ref (u_23 0), .ref (u_23 1), .ref (u_23 2), .int 0, .int 0])), ((u_23 0), .inl (g 0, 100, .inl (fun _ => 0))), ((u_23 1), .inl (g 0, 200, .inl (fun _ => 0))), ((u_23 2), .inl (g 0, 200, .inl (fun _ => 0))), (q_26, .inr (11, [.ref (u_28 0), .int 0])), ((u_28 0), .inl (g 0, 100, .inl (fun _ => 0))), (q_31, .inl (g 0, 200, .inl (fun _ => 0)))] H_34 := hP
  have hD : va_D A [(t, .inr (3, [.ref q_1, .ref q_6, .ref q_11, .ref q_16, .ref q_21, .ref q_26, .ref q_31, .int 0])), (q_1, .inr (8, [.ref (u_3 0), .ref (u_3 1), .int 0])), ((u_3 0), .inl (g 0, 50, .inl (fun _ => 0))), ((u_3 1), .inl (g 0, 50, .inl (fun _ => 0))), (q_6, .inr (4, [.ref (u_8 0), .ref (u_8 3), .ref (u_8 6), .ref (u_8 7), .int 0, .ref (u_8 8), .ref (u_8 12), .ref (u_8 16), .int 0, .int 0, .int 0, .int 0, .int 0, .int 0, .int 0])), ((u_8 0), .inr (8, [.ref (u_8 1), .ref (u_8 2), .int 0])), ((u_8 1), .inl (g 0, 50, .inl (fun _ => 0))), ((u_8 2), .inl (g 0, 50, .inl (fun _ => 0))), ((u_8 3), .inr (5, [.ref (u_8 4), .ref (u_8 5), .int 0, .int 2, .int 0, .int 0])), ((u_8 4), .inl (g 0, 200, .inl (fun _ => 0))), ((u_8 5), .inl (g 0, 6, .inl (fun _ => 0))), ((u_8 6), .inl (g 0, 6, .inl (fun _ => 0))), ((u_8 7), .inl (g 0, 6, .inl (fun _ => 0))), ((u_8 8), .inr (9, [.ref (u_8 9), .ref (u_8 10), .ref (u_8 11), .int 0, .int 0])), ((u_8 9), .inl (g 0, 100, .inl (fun _ => 0))), ((u_8 10), .inl (g 0, 200, .inl (fun _ => 0))), ((u_8 11), .inl (g 0, 200, .inl (fun _ => 0))), ((u_8 12), .inr (9, [.ref (u_8 13), .ref (u_8 14), .ref (u_8 15), .int 0, .int 0])), ((u_8 13), .inl (g 0, 100, .inl (fun _ => 0))), ((u_8 14), .inl (g 0, 200, .inl (fun _ => 0))), ((u_8 15), .inl (g 0, 200, .inl (fun _ => 0))), ((u_8 16), .inr (9, [.ref (u_8 17), .ref (u_8 18), .ref (u_8 19), .int 0, .int 0])), ((u_8 17), .inl (g 0, 100, .inl (fun _ => 0))), ((u_8 18), .inl (g 0, 200, .inl (fun _ => 0))), ((u_8 19), .inl (g 0, 200, .inl (fun _ => 0))), (q_11, .inr (6, [.ref (u_13 0), .ref (u_13 3), .ref (u_13 4), .int 0, .int 0, .int 0, .int 0, .int 0])), ((u_13 0), .inr (5, [.ref (u_13 1), .ref (u_13 2), .int 0, .int 2, .int 0, .int 0])), ((u_13 1), .inl (g 0, 200, .inl (fun _ => 0))), ((u_13 2), .inl (g 0, 6, .inl (fun _ => 0))), ((u_13 3), .inl (g 0, 200, .inl (fun _ => 0))), ((u_13 4), .inl (g 0, 200, .inl (fun _ => 0))), (q_16, .inr (10, [.int 0, .int 1, .int 4, .int 0, .int 2])), (q_21, .inr (9, [.ref (u_23 0), .ref (u_23 1), .ref (u_23 2), .int 0, .int 0])), ((u_23 0), .inl (g 0, 100, .inl (fun _ => 0))), ((u_23 1), .inl (g 0, 200, .inl (fun _ => 0))), ((u_23 2), .inl (g 0, 200, .inl (fun _ => 0))), (q_26, .inr (11, [.ref (u_28 0), .int 0])), ((u_28 0), .inl (g 0, 100, .inl (fun _ => 0))), (q_31, .inl (g 0, 200, .inl (fun _ => 0)))] := hD
  refine lv_aload_n hx hb dX1_init_79 rfl (lv_at hl 0 rfl) ?_
  refine lv_iconst (v := 0) hx hb dX1_init_80 (by decide) ?_
  refine va_putS (D := (dC, dI)) (ci := 3) (v := .int 0) (ty := .int) (C := RX1) (T := TX1) (N := 8) hx hb hts hiX1 tyX1 tyX1_ok nmX1 hown hK hP hD hS 0 rfl rfl 7 (by decide) hf57 (fun _ h9 => h9) rfl (by decide +kernel) rfl rfl (Nat.le_of_ble_eq_true rfl) rfl dX1_init_81 (fun H_36 L_37 hP hS => ?_)
  have hP9 := hP.sub (ws' := [(t, .inr (3, [.ref q_1, .ref q_6, .ref q_11, .ref q_16, .ref q_21, .ref q_26, .ref q_31, .int 0])), (q_1, .inr (8, [.ref (u_3 0), .ref (u_3 1), .int 0])), ((u_3 0), .inl (g 0, 50, .inl (fun _ => 0))), ((u_3 1), .inl (g 0, 50, .inl (fun _ => 0))), (q_6, .inr (4, [.ref (u_8 0), .ref (u_8 3), .ref (u_8 6), .ref (u_8 7), .int 0, .ref (u_8 8), .ref (u_8 12), .ref (u_8 16), .int 0, .int 0, .int 0, .int 0, .int 0, .int 0, .int 0])), ((u_8 0), .inr (8, [.ref (u_8 1), .ref (u_8 2), .int 0])), ((u_8 1), .inl (g 0, 50, .inl (fun _ => 0))), ((u_8 2), .inl (g 0, 50, .inl (fun _ => 0))), ((u_8 3), .inr (5, [.ref (u_8 4), .ref (u_8 5), .int 0, .int 2, .int 0, .int 0])), ((u_8 4), .inl (g 0, 200, .inl (fun _ => 0))), ((u_8 5), .inl (g 0, 6, .inl (fun _ => 0))), ((u_8 6), .inl (g 0, 6, .inl (fun _ => 0))), ((u_8 7), .inl (g 0, 6, .inl (fun _ => 0))), ((u_8 8), .inr (9, [.ref (u_8 9), .ref (u_8 10), .ref (u_8 11), .int 0, .int 0])), ((u_8 9), .inl (g 0, 100, .inl (fun _ => 0))), ((u_8 10), .inl (g 0, 200, .inl (fun _ => 0))), ((u_8 11), .inl (g 0, 200, .inl (fun _ => 0))), ((u_8 12), .inr (9, [.ref (u_8 13), .ref (u_8 14), .ref (u_8 15), .int 0, .int 0])), ((u_8 13), .inl (g 0, 100, .inl (fun _ => 0))), ((u_8 14), .inl (g 0, 200, .inl (fun _ => 0))), ((u_8 15), .inl (g 0, 200, .inl (fun _ => 0))), ((u_8 16), .inr (9, [.ref (u_8 17), .ref (u_8 18), .ref (u_8 19), .int 0, .int 0])), ((u_8 17), .inl (g 0, 100, .inl (fun _ => 0))), ((u_8 18), .inl (g 0, 200, .inl (fun _ => 0))), ((u_8 19), .inl (g 0, 200, .inl (fun _ => 0))), (q_11, .inr (6, [.ref (u_13 0), .ref (u_13 3), .ref (u_13 4), .int 0, .int 0, .int 0, .int 0, .int 0])), ((u_13 0), .inr (5, [.ref (u_13 1), .ref (u_13 2), .int 0, .int 2, .int 0, .int 0])), ((u_13 1), .inl (g 0, 200, .inl (fun _ => 0))), ((u_13 2), .inl (g 0, 6, .inl (fun _ => 0))), ((u_13 3), .inl (g 0, 200, .inl (fun _ => 0))), ((u_13 4), .inl (g 0, 200, .inl (fun _ => 0))), (q_16, .inr (10, [.int 0, .int 1, .int 4, .int 0, .int 2])), (q_21, .inr (9, [.ref (u_23 0), .ref (u_23 1), .ref (u_23 2), .int 0, .int 0])), ((u_23 0), .inl (g 0, 100, .inl (fun _ => 0))), ((u_23 1), .inl (g 0, 200, .inl (fun _ => 0))), ((u_23 2), .inl (g 0, 200, .inl (fun _ => 0))), (q_26, .inr (11, [.ref (u_28 0), .int 0])), ((u_28 0), .inl (g 0, 100, .inl (fun _ => 0))), (q_31, .inl (g 0, 200, .inl (fun _ => 0)))]) [0, 1, 2, 3, 4, 5, 6, 7, 8, 9, 10, 11, 12, 13, 14, 15, 16, 17, 18, 19, 20, 21, 22, 23, 24, 25, 26, 27, 28, 29, 30, 31, 32, 33, 34, 35, 36, 37, 38] rfl
  have hD9 := hD.sub (ws' := [(t, .inr (3, [.ref q_1, .ref q_6, .ref q_11, .ref q_16, .ref q_21, .ref q_26, .ref q_31, .int 0])), (q_1, .inr (8, [.ref (u_3 0), .ref (u_3 1), .int 0])), ((u_3 0), .inl (g 0, 50, .inl (fun _ => 0))), ((u_3 1), .inl (g 0, 50, .inl (fun _ => 0))), (q_6, .inr (4, [.ref (u_8 0), .ref (u_8 3), .ref (u_8 6), .ref (u_8 7), .int 0, .ref (u_8 8), .ref (u_8 12), .ref (u_8 16), .int 0, .int 0, .int 0, .int 0, .int 0, .int 0, .int 0])), ((u_8 0), .inr (8, [.ref (u_8 1), .ref (u_8 2), .int 0])), ((u_8 1), .inl (g 0, 50, .inl (fun _ => 0))), ((u_8 2), .inl (g 0, 50, .inl (fun _ => 0))), ((u_8 3), .inr (5, [.ref (u_8 4), .ref (u_8 5), .int 0, .int 2, .int 0, .int 0])), ((u_8 4), .inl (g 0, 200, .inl (fun _ => 0))), ((u_8 5), .inl (g 0, 6, .inl (fun _ => 0))), ((u_8 6), .inl (g 0, 6, .inl (fun _ => 0))), ((u_8 7), .inl (g 0, 6, .inl (fun _ => 0))), ((u_8 8), .inr (9, [.ref (u_8 9), .ref (u_8 10), .ref (u_8 11), .int 0, .int 0])), ((u_8 9), .inl (g 0, 100, .inl (fun _ => 0))), ((u_8 10), .inl (g 0, 200, .inl (fun _ => 0))), ((u_8 11), .inl (g 0, 200, .inl (fun _ => 0))), ((u_8 12), .inr (9, [.ref (u_8 13), .ref (u_8 14), .ref (u_8 15), .int 0, .int 0])), ((u_8 13), .inl (g 0, 100, .inl (fun _ => 0))), ((u_8 14), .inl (g 0, 200, .inl (fun _ => 0))), ((u_8 15), .inl (g 0, 200, .inl (fun _ => 0))), ((u_8 16), .inr (9, [.ref (u_8 17), .ref (u_8 18), .ref (u_8 19), .int 0, .int 0])), ((u_8 17), .inl (g 0, 100, .inl (fun _ => 0))), ((u_8 18), .inl (g 0, 200, .inl (fun _ => 0))), ((u_8 19), .inl (g 0, 200, .inl (fun _ => 0))), (q_11, .inr (6, [.ref (u_13 0), .ref (u_13 3), .ref (u_13 4), .int 0, .int 0, .int 0, .int 0, .int 0])), ((u_13 0), .inr (5, [.ref (u_13 1), .ref (u_13 2), .int 0, .int 2, .int 0, .int 0])), ((u_13 1), .inl (g 0, 200, .inl (fun _ => 0))), ((u_13 2), .inl (g 0, 6, .inl (fun _ => 0))), ((u_13 3), .inl (g 0, 200, .inl (fun _ => 0))), ((u_13 4), .inl (g 0, 200, .inl (fun _ => 0))), (q_16, .inr (10, [.int 0, .int 1, .int 4, .int 0, .int 2])), (q_21, .inr (9, [.ref (u_23 0), .ref (u_23 1), .ref (u_23 2), .int 0, .int 0])), ((u_23 0), .inl (g 0, 100, .inl (fun _ => 0))), ((u_23 1), .inl (g 0, 200, .inl (fun _ => 0))), ((u_23 2), .inl (g 0, 200, .inl (fun _ => 0))), (q_26, .inr (11, [.ref (u_28 0), .int 0])), ((u_28 0), .inl (g 0, 100, .inl (fun _ => 0))), (q_31, .inl (g 0, 200, .inl (fun _ => 0)))]) [0, 1, 2, 3, 4, 5, 6, 7, 8, 9, 10, 11, 12, 13, 14, 15, 16, 17, 18, 19, 20, 21, 22, 23, 24, 25, 26, 27, 28, 29, 30, 31, 32, 33, 34, 35, 36, 37, 38] (by decide) rfl
  exact W.vret hx hb hr (fun t ht hW => ⟨⟨(fun j => ([q_1, (u_3 0), (u_3 1), q_6, (u_8 0), (u_8 1), (u_8 2), (u_8 3), (u_8 4), (u_8 5), (u_8 6), (u_8 7), (u_8 8), (u_8 9), (u_8 10), (u_8 11), (u_8 12), (u_8 13), (u_8 14), (u_8 15), (u_8 16), (u_8 17), (u_8 18), (u_8 19), q_11, (u_13 0), (u_13 1), (u_13 2), (u_13 3), (u_13 4), q_16, q_21, (u_23 0), (u_23 1), (u_23 2), q_26, (u_28 0), q_31] : List Nat).getD j 0), rfl, trivial, ⟨P_at ht hP9, hD9⟩⟩, hS.F ht⟩) hS.2.2 dX1_init_84
