theorem dX11_init_0 : decode cX11_init 0 = .ok (.aload_n 0, 1) := by decide +kernel
theorem dX11_init_1 : decode cX11_init 1 = .ok (.invokespecial 1, 3) := by decide +kernel
theorem dX11_init_4 : decode cX11_init 4 = .ok (.aload_n 0, 1) := by decide +kernel
theorem dX11_init_5 : decode cX11_init 5 = .ok (.new 7, 3) := by decide +kernel
theorem dX11_init_8 : decode cX11_init 8 = .ok (.dup, 1) := by decide +kernel
set_option maxRecDepth 200000 in
theorem ggX11_init_X0_init : GoodIn wsX11_init wsX0_init := goodIn_r _ [45, 46, 2, 3, 47, 48, 49, 50, 164, 165, 166] rfl (by decide +kernel)
set_option maxRecDepth 20000 in
theorem gX11_init_X0_init_n9 : GoodIn wsX11_init (wsX0_init) := ggX11_init_X0_init
theorem dX11_init_9 : decode cX11_init 9 = .ok (.invokespecial 9, 3) := by decide +kernel
theorem dX11_init_12 : decode cX11_init 12 = .ok (.putfield 10, 3) := by decide +kernel
theorem dX11_init_15 : decode cX11_init 15 = .ok (.aload_n 0, 1) := by decide +kernel
theorem dX11_init_16 : decode cX11_init 16 = .ok (.bipush 8, 2) := by decide +kernel
theorem dX11_init_18 : decode cX11_init 18 = .ok (.anewarray 16, 3) := by decide +kernel
theorem dX11_init_21 : decode cX11_init 21 = .ok (.putfield 18, 3) := by decide +kernel
theorem dX11_init_24 : decode cX11_init 24 = .ok (.aload_n 0, 1) := by decide +kernel
theorem dX11_init_25 : decode cX11_init 25 = .ok (.bipush 8, 2) := by decide +kernel
theorem dX11_init_27 : decode cX11_init 27 = .ok (.anewarray 16, 3) := by decide +kernel
theorem dX11_init_30 : decode cX11_init 30 = .ok (.putfield 22, 3) := by decide +kernel
theorem dX11_init_33 : decode cX11_init 33 = .ok (.aload_n 0, 1) := by decide +kernel
theorem dX11_init_34 : decode cX11_init 34 = .ok (.new 16, 3) := by decide +kernel
theorem dX11_init_37 : decode cX11_init 37 = .ok (.dup, 1) := by decide +kernel
set_option maxRecDepth 200000 in
theorem ggX11_init_X9_init : GoodIn wsX11_init wsX9_init := goodIn_r _ [52, 53, 2, 3, 47, 54, 55, 180, 181] rfl (by decide +kernel)
set_option maxRecDepth 20000 in
theorem gX11_init_X9_init_n25 : GoodIn wsX11_init (wsX9_init) := ggX11_init_X9_init
theorem dX11_init_38 : decode cX11_init 38 = .ok (.invokespecial 25, 3) := by decide +kernel
theorem dX11_init_41 : decode cX11_init 41 = .ok (.putfield 26, 3) := by decide +kernel
theorem dX11_init_44 : decode cX11_init 44 = .ok (.aload_n 0, 1) := by decide +kernel
theorem dX11_init_45 : decode cX11_init 45 = .ok (.new 30, 3) := by decide +kernel
theorem dX11_init_48 : decode cX11_init 48 = .ok (.dup, 1) := by decide +kernel
set_option maxRecDepth 200000 in
theorem ggX11_init_X8_init : GoodIn wsX11_init wsX8_init := goodIn_r _ [57, 58, 2, 3, 59, 60, 61, 62, 63, 182, 183, 184, 185, 186] rfl (by decide +kernel)
set_option maxRecDepth 20000 in
theorem gX11_init_X8_init_n32 : GoodIn wsX11_init (wsX8_init) := ggX11_init_X8_init
theorem dX11_init_49 : decode cX11_init 49 = .ok (.invokespecial 32, 3) := by decide +kernel
theorem dX11_init_52 : decode cX11_init 52 = .ok (.putfield 33, 3) := by decide +kernel
theorem dX11_init_55 : decode cX11_init 55 = .ok (.aload_n 0, 1) := by decide +kernel
theorem dX11_init_56 : decode cX11_init 56 = .ok (.new 37, 3) := by decide +kernel
theorem dX11_init_59 : decode cX11_init 59 = .ok (.dup, 1) := by decide +kernel
set_option maxRecDepth 200000 in
theorem ggX11_init_X6_init : GoodIn wsX11_init wsX6_init := goodIn_r _ [65, 66, 2, 3, 47, 67, 68, 69, 187, 188, 189] rfl (by decide +kernel)
set_option maxRecDepth 20000 in
theorem gX11_init_X6_init_n39 : GoodIn wsX11_init (wsX6_init) := ggX11_init_X6_init
theorem dX11_init_60 : decode cX11_init 60 = .ok (.invokespecial 39, 3) := by decide +kernel
theorem dX11_init_63 : decode cX11_init 63 = .ok (.putfield 40, 3) := by decide +kernel
theorem dX11_init_66 : decode cX11_init 66 = .ok (.aload_n 0, 1) := by decide +kernel
theorem dX11_init_67 : decode cX11_init 67 = .ok (.new 44, 3) := by decide +kernel
theorem dX11_init_70 : decode cX11_init 70 = .ok (.dup, 1) := by decide +kernel
set_option maxRecDepth 200000 in
theorem ggX11_init_X7_init : GoodIn wsX11_init wsX7_init := goodIn_r _ [71, 72, 2, 3, 47, 73, 74, 75, 76, 77, 190, 191, 192, 193, 194] rfl (by decide +kernel)
set_option maxRecDepth 20000 in
theorem gX11_init_X7_init_n46 : GoodIn wsX11_init (wsX7_init) := ggX11_init_X7_init
theorem dX11_init_71 : decode cX11_init 71 = .ok (.invokespecial 46, 3) := by decide +kernel
theorem dX11_init_74 : decode cX11_init 74 = .ok (.putfield 47, 3) := by decide +kernel
theorem dX11_init_77 : decode cX11_init 77 = .ok (.aload_n 0, 1) := by decide +kernel
theorem dX11_init_78 : decode cX11_init 78 = .ok (.new 51, 3) := by decide +kernel
theorem dX11_init_81 : decode cX11_init 81 = .ok (.dup, 1) := by decide +kernel
set_option maxRecDepth 200000 in
theorem ggX11_init_X4_init : GoodIn wsX11_init wsX4_init := goodIn_r _ [79, 80, 2, 3, 81, 82, 83, 84, 47, 85, 86, 87, 88, 89, 90, 91, 92, 93, 94, 95, 96, 97, 98, 99, 100, 239, 240, 241, 242, 243, 244, 195, 196, 197, 198, 199, 200, 201, 202] rfl (by decide +kernel)
set_option maxRecDepth 20000 in
theorem gX11_init_X4_init_n53 : GoodIn wsX11_init (wsX4_init) := ggX11_init_X4_init
theorem dX11_init_82 : decode cX11_init 82 = .ok (.invokespecial 53, 3) := by decide +kernel
theorem dX11_init_85 : decode cX11_init 85 = .ok (.putfield 54, 3) := by decide +kernel
theorem dX11_init_88 : decode cX11_init 88 = .ok (.aload_n 0, 1) := by decide +kernel
theorem dX11_init_89 : decode cX11_init 89 = .ok (.new 58, 3) := by decide +kernel
theorem dX11_init_92 : decode cX11_init 92 = .ok (.dup, 1) := by decide +kernel
set_option maxRecDepth 200000 in
theorem ggX11_init_X2_init_h : GoodIn wsX11_init [.code yX2_init cX2_init 1 none] := goodIn_r _ [102] rfl (by decide +kernel)
set_option maxRecDepth 200000 in
theorem ggX11_init_X2_init_0 : GoodIn wsX11_init wsX2_init_r1 := goodIn_r _ [103, 2, 3, 104, 19, 20, 105, 106, 82, 83, 107, 47, 108, 109, 110, 111, 23, 24, 112, 113, 114, 115, 116, 117] rfl (by decide +kernel)
set_option maxRecDepth 200000 in
theorem ggX11_init_X2_init_1 : GoodIn wsX11_init wsX2_init_r2 := goodIn_r _ [118, 119, 120, 121, 64, 65, 66, 67, 68, 69, 92, 93, 94, 95, 96, 97, 98, 99, 100, 70, 71, 72, 73, 74] rfl (by decide +kernel)
set_option maxRecDepth 200000 in
theorem ggX11_init_X2_init_2 : GoodIn wsX11_init wsX2_init_r3 := goodIn_r _ [75, 76, 77] rfl (by decide +kernel)
set_option maxRecDepth 200000 in
theorem ggX11_init_X2_init_3 : GoodIn wsX11_init wsX60 := goodIn_r _ [187, 188, 189] rfl (by decide +kernel)
set_option maxRecDepth 200000 in
theorem ggX11_init_X2_init_4 : GoodIn wsX11_init wsX20 := goodIn_r _ [203, 204, 205, 206, 207, 208, 209, 210, 211, 212, 213, 214, 215, 216, 217] rfl (by decide +kernel)
set_option maxRecDepth 200000 in
theorem ggX11_init_X2_init_5 : GoodIn wsX11_init wsX30 := goodIn_r _ [239, 240, 241, 242, 243, 244] rfl (by decide +kernel)
set_option maxRecDepth 200000 in
theorem ggX11_init_X2_init_6 : GoodIn wsX11_init wsX70 := goodIn_r _ [190, 191, 192, 193, 194] rfl (by decide +kernel)
set_option maxRecDepth 20000 in
theorem ggX11_init_X2_init : GoodIn wsX11_init wsX2_init := (fun w h => (List.mem_cons.mp h).elim (fun e => ggX11_init_X2_init_h w (List.mem_singleton.mpr e)) (fun h => (goodIn_app (goodIn_app (goodIn_app (goodIn_app (goodIn_app ggX11_init_X2_init_0 (goodIn_app ggX11_init_X2_init_1 ggX11_init_X2_init_2)) ggX11_init_X2_init_3) ggX11_init_X2_init_4) ggX11_init_X2_init_5) ggX11_init_X2_init_6) w h))
set_option maxRecDepth 20000 in
theorem gX11_init_X2_init_n60 : GoodIn wsX11_init (wsX2_init) := ggX11_init_X2_init
theorem dX11_init_93 : decode cX11_init 93 = .ok (.invokespecial 60, 3) := by decide +kernel
theorem dX11_init_96 : decode cX11_init 96 = .ok (.putfield 61, 3) := by decide +kernel
theorem dX11_init_99 : decode cX11_init 99 = .ok (.aload_n 0, 1) := by decide +kernel
theorem dX11_init_100 : decode cX11_init 100 = .ok (.new 58, 3) := by decide +kernel
theorem dX11_init_103 : decode cX11_init 103 = .ok (.dup, 1) := by decide +kernel
theorem dX11_init_104 : decode cX11_init 104 = .ok (.invokespecial 60, 3) := by decide +kernel
theorem dX11_init_107 : decode cX11_init 107 = .ok (.putfield 65, 3) := by decide +kernel
theorem dX11_init_110 : decode cX11_init 110 = .ok (.aload_n 0, 1) := by decide +kernel
theorem dX11_init_111 : decode cX11_init 111 = .ok (.new 68, 3) := by decide +kernel
theorem dX11_init_114 : decode cX11_init 114 = .ok (.dup, 1) := by decide +kernel
set_option maxRecDepth 200000 in
theorem ggX11_init_X5_init : GoodIn wsX11_init wsX5_init := goodIn_r _ [123, 124, 2, 3, 125, 126, 127, 128, 47, 129, 130, 15, 16, 131, 132, 133, 134, 135, 136, 137, 138, 139, 140, 141, 142, 143, 144, 145, 146, 56, 57, 58, 59, 60, 61, 62, 63, 245, 246, 218, 219, 220, 221, 222, 223, 224, 225, 226, 227, 228, 229, 230, 182, 183, 184, 185, 186] rfl (by decide +kernel)
set_option maxRecDepth 20000 in
theorem gX11_init_X5_init_n70 : GoodIn wsX11_init (wsX5_init) := ggX11_init_X5_init
theorem dX11_init_115 : decode cX11_init 115 = .ok (.invokespecial 70, 3) := by decide +kernel
theorem dX11_init_118 : decode cX11_init 118 = .ok (.putfield 71, 3) := by decide +kernel
theorem dX11_init_121 : decode cX11_init 121 = .ok (.aload_n 0, 1) := by decide +kernel
theorem dX11_init_122 : decode cX11_init 122 = .ok (.new 75, 3) := by decide +kernel
theorem dX11_init_125 : decode cX11_init 125 = .ok (.dup, 1) := by decide +kernel
set_option maxRecDepth 200000 in
theorem ggX11_init_X1_init_h : GoodIn wsX11_init [.code yX1_init cX1_init 1 none] := goodIn_r _ [148] rfl (by decide +kernel)
set_option maxRecDepth 200000 in
theorem ggX11_init_X1_init_0 : GoodIn wsX11_init wsX1_init_r1 := goodIn_r _ [149, 2, 3, 150, 19, 20, 151, 152, 31, 32, 153, 154, 27, 28, 155, 156, 15, 16, 157, 158, 23, 24, 159, 160] rfl (by decide +kernel)
set_option maxRecDepth 200000 in
theorem ggX11_init_X1_init_1 : GoodIn wsX11_init wsX1_init_r2 := goodIn_r _ [11, 12, 161, 47, 162, 163, 64, 65, 66, 67, 68, 69, 101, 102, 103, 104, 105, 106, 82, 83, 107, 108, 109, 110] rfl (by decide +kernel)
set_option maxRecDepth 200000 in
theorem ggX11_init_X1_init_2 : GoodIn wsX11_init wsX1_init_r3 := goodIn_r _ [111, 112, 113, 114, 115, 116, 117, 118, 119, 120, 121, 92, 93, 94, 95, 96, 97, 98, 99, 100, 70, 71, 72, 73] rfl (by decide +kernel)
set_option maxRecDepth 200000 in
theorem ggX11_init_X1_init_3 : GoodIn wsX11_init wsX1_init_r4 := goodIn_r _ [74, 75, 76, 77, 78, 79, 80, 81, 84, 85, 86, 87, 88, 89, 90, 91, 56, 57, 58, 59, 60, 61, 62, 63] rfl (by decide +kernel)
set_option maxRecDepth 200000 in
theorem ggX11_init_X1_init_4 : GoodIn wsX11_init wsX1_init_r5 := goodIn_r _ [51, 52, 53, 54, 55] rfl (by decide +kernel)
set_option maxRecDepth 200000 in
theorem ggX11_init_X1_init_5 : GoodIn wsX11_init wsX60 := goodIn_r _ [187, 188, 189] rfl (by decide +kernel)
set_option maxRecDepth 200000 in
theorem ggX11_init_X1_init_6 : GoodIn wsX11_init wsX10 := goodIn_r _ [231, 232, 233, 234, 235, 236, 237, 238] rfl (by decide +kernel)
set_option maxRecDepth 200000 in
theorem ggX11_init_X1_init_7 : GoodIn wsX11_init wsX20 := goodIn_r _ [203, 204, 205, 206, 207, 208, 209, 210, 211, 212, 213, 214, 215, 216, 217] rfl (by decide +kernel)
set_option maxRecDepth 200000 in
theorem ggX11_init_X1_init_8 : GoodIn wsX11_init wsX40 := goodIn_r _ [195, 196, 197, 198, 199, 200, 201, 202] rfl (by decide +kernel)
set_option maxRecDepth 200000 in
theorem ggX11_init_X1_init_9 : GoodIn wsX11_init wsX80 := goodIn_r _ [182, 183, 184, 185, 186] rfl (by decide +kernel)
set_option maxRecDepth 200000 in
theorem ggX11_init_X1_init_10 : GoodIn wsX11_init wsX70 := goodIn_r _ [190, 191, 192, 193, 194] rfl (by decide +kernel)
set_option maxRecDepth 200000 in
theorem ggX11_init_X1_init_11 : GoodIn wsX11_init wsX90 := goodIn_r _ [180, 181] rfl (by decide +kernel)
set_option maxRecDepth 200000 in
theorem ggX11_init_X1_init_12 : GoodIn wsX11_init wsX30 := goodIn_r _ [239, 240, 241, 242, 243, 244] rfl (by decide +kernel)
set_option maxRecDepth 20000 in
theorem ggX11_init_X1_init : GoodIn wsX11_init wsX1_init := (fun w h => (List.mem_cons.mp h).elim (fun e => ggX11_init_X1_init_h w (List.mem_singleton.mpr e)) (fun h => (goodIn_app (goodIn_app (goodIn_app (goodIn_app (goodIn_app (goodIn_app (goodIn_app (goodIn_app (goodIn_app ggX11_init_X1_init_0 (goodIn_app ggX11_init_X1_init_1 (goodIn_app ggX11_init_X1_init_2 (goodIn_app ggX11_init_X1_init_3 ggX11_init_X1_init_4)))) ggX11_init_X1_init_5) ggX11_init_X1_init_6) ggX11_init_X1_init_7) ggX11_init_X1_init_8) ggX11_init_X1_init_9) ggX11_init_X1_init_10) ggX11_init_X1_init_11) ggX11_init_X1_init_12) w h))
set_option maxRecDepth 20000 in
theorem gX11_init_X1_init_n77 : GoodIn wsX11_init (wsX1_init) := ggX11_init_X1_init
theorem dX11_init_126 : decode cX11_init 126 = .ok (.invokespecial 77, 3) := by decide +kernel
theorem dX11_init_129 : decode cX11_init 129 = .ok (.putfield 78, 3) := by decide +kernel
theorem dX11_init_132 : decode cX11_init 132 = .ok (.aload_n 0, 1) := by decide +kernel
theorem dX11_init_133 : decode cX11_init 133 = .ok (.iconst 0, 1) := by decide +kernel
theorem dX11_init_134 : decode cX11_init 134 = .ok (.putfield 82, 3) := by decide +kernel
theorem dX11_init_137 : decode cX11_init 137 = .ok (.iconst 0, 1) := by decide +kernel
theorem dX11_init_138 : decode cX11_init 138 = .ok (.istore_n 1, 1) := by decide +kernel
theorem dX11_init_139 : decode cX11_init 139 = .ok (.iload_n 1, 1) := by decide +kernel
theorem dX11_init_140 : decode cX11_init 140 = .ok (.bipush 8, 2) := by decide +kernel
theorem dX11_init_142 : decode cX11_init 142 = .ok (.if_icmp .ge 35, 3) := by decide +kernel
theorem dX11_init_145 : decode cX11_init 145 = .ok (.aload_n 0, 1) := by decide +kernel
theorem dX11_init_146 : decode cX11_init 146 = .ok (.getfield 18, 3) := by decide +kernel
theorem dX11_init_149 : decode cX11_init 149 = .ok (.iload_n 1, 1) := by decide +kernel
theorem dX11_init_150 : decode cX11_init 150 = .ok (.new 16, 3) := by decide +kernel
theorem dX11_init_153 : decode cX11_init 153 = .ok (.dup, 1) := by decide +kernel
theorem dX11_init_154 : decode cX11_init 154 = .ok (.invokespecial 25, 3) := by decide +kernel
theorem dX11_init_157 : decode cX11_init 157 = .ok (.aastore, 1) := by decide +kernel
theorem dX11_init_158 : decode cX11_init 158 = .ok (.aload_n 0, 1) := by decide +kernel
theorem dX11_init_159 : decode cX11_init 159 = .ok (.getfield 22, 3) := by decide +kernel
theorem dX11_init_162 : decode cX11_init 162 = .ok (.iload_n 1, 1) := by decide +kernel
theorem dX11_init_163 : decode cX11_init 163 = .ok (.new 16, 3) := by decide +kernel
theorem dX11_init_166 : decode cX11_init 166 = .ok (.dup, 1) := by decide +kernel
theorem dX11_init_167 : decode cX11_init 167 = .ok (.invokespecial 25, 3) := by decide +kernel
theorem dX11_init_170 : decode cX11_init 170 = .ok (.aastore, 1) := by decide +kernel
theorem dX11_init_171 : decode cX11_init 171 = .ok (.iinc 1 1, 3) := by decide +kernel
theorem dX11_init_174 : decode cX11_init 174 = .ok (.goto (-35), 3) := by decide +kernel
theorem dX11_init_177 : decode cX11_init 177 = .ok (.return_, 1) := by decide +kernel
set_option maxHeartbeats 20000000 in
set_option maxRecDepth 100000 in
theorem off_fin {dC : Nat → ClassId} {dI : Nat → Nat → Nat} {g : Nat → ClassId} {H : Heap} {A : Nat → Prop} {x9_0 x9_1 x9_2 x9_3 x9_4 x9_5 x9_6 x9_7 x9_8 x9_9 x9_10 x9_11 x9_12 x9_13 x9_14 x9_15 x9_16 x9_17 x9_18 x9_19 x9_20 x9_21 x9_22 x9_23 x9_24 x9_25 x9_26 x9_27 x9_28 x9_29 x9_30 x9_31 x9_32 x9_33 x9_34 x9_35 x9_36 x9_37 x9_38 x9_39 x9_40 x9_41 x9_42 x9_43 x9_44 x9_45 x9_46 x9_47 x9_48 x9_49 x9_50 x9_51 x9_52 x9_53 x9_54 x9_55 x9_56 x9_57 x9_58 x9_59 x9_60 x9_61 x9_62 x9_63 x9_64 x9_65 x9_66 x9_67 x9_68 x9_69 x9_70 x9_71 x9_72 x9_73 x9_74 x9_75 x9_76 x9_77 x9_78 x9_79 x9_80 x9_81 x9_82 x9_83 x9_84 x9_85 x9_86 x9_87 x9_88 x9_89 x9_90 x9_91 x9_92 x9_93 x9_94 x9_95 x9_96 x9_97 x9_98 x9_99 x9_100 x9_101 x9_102 x9_103 x9_104 x9_105 x9_106 x9_107 x9_108 x9_109 x9_110 x9_111 x9_112 x9_113 x9_114 x9_115 x9_116 x9_117 x9_118 x9_119 x9_120 x9_121 x9_122 x9_123 x9_124 x9_125 x9_126 x9_127 x9_128 x9_129 x9_130 x9_131 x9_132 x9_133 x9_134 x9_135 x9_136 x9_137 x9_138 x9_139 : Nat} (hP : va_P (dC, dI) vwCl [(x9_0, .inr (13, [.ref x9_1, .ref x9_4, .ref x9_5, .ref x9_6, .ref x9_8, .ref x9_9, .ref x9_12, .ref x9_16, .ref x9_22, .ref x9_43, .ref x9_64, .ref x9_69, .int 0])), (x9_4, .inl (g 1, 8, .inr (.inr (.inr (.inr (va_up (va_up (va_up (va_up (va_up (va_up (va_up (va_up (fun _ => none) 0 (some x9_108)) 1 (some x9_109)) 2 (some x9_110)) 3 (some x9_111)) 4 (some x9_112)) 5 (some x9_113)) 6 (some x9_114)) 7 (some x9_115))))))), (x9_5, .inl (g 1, 8, .inr (.inr (.inr (.inr (va_up (va_up (va_up (va_up (va_up (va_up (va_up (va_up (fun _ => none) 0 (some x9_124)) 1 (some x9_125)) 2 (some x9_126)) 3 (some x9_127)) 4 (some x9_128)) 5 (some x9_129)) 6 (some x9_130)) 7 (some x9_131))))))), (x9_1, .inr (2, [.ref x9_2, .ref x9_3, .int 0])), (x9_2, .inl (g 0, 200, .inl (fun _ => 0))), (x9_3, .inl (g 0, 200, .inl (fun _ => 0))), (x9_6, .inr (11, [.ref x9_7, .int 0])), (x9_7, .inl (g 0, 100, .inl (fun _ => 0))), (x9_8, .inr (10, [.int 0, .int 1, .int 4, .int 0, .int 2])), (x9_9, .inr (8, [.ref x9_10, .ref x9_11, .int 0])), (x9_10, .inl (g 0, 50, .inl (fun _ => 0))), (x9_11, .inl (g 0, 50, .inl (fun _ => 0))), (x9_12, .inr (9, [.ref x9_13, .ref x9_14, .ref x9_15, .int 0, .int 0])), (x9_13, .inl (g 0, 100, .inl (fun _ => 0))), (x9_14, .inl (g 0, 200, .inl (fun _ => 0))), (x9_15, .inl (g 0, 200, .inl (fun _ => 0))), (x9_16, .inr (6, [.ref x9_17, .ref x9_20, .ref x9_21, .int 0, .int 0, .int 0, .int 0, .int 0])), (x9_17, .inr (5, [.ref x9_18, .ref x9_19, .int 0, .int 2, .int 0, .int 0])), (x9_18, .inl (g 0, 200, .inl (fun _ => 0))), (x9_19, .inl (g 0, 6, .inl (fun _ => 0))), (x9_20, .inl (g 0, 200, .inl (fun _ => 0))), (x9_21, .inl (g 0, 200, .inl (fun _ => 0))), (x9_22, .inr (4, [.ref x9_23, .ref x9_26, .ref x9_29, .ref x9_30, .int 0, .ref x9_31, .ref x9_35, .ref x9_39, .int 0, .int 0, .int 0, .int 0, .int 0, .int 0, .int 0])), (x9_23, .inr (8, [.ref x9_24, .ref x9_25, .int 0])), (x9_24, .inl (g 0, 50, .inl (fun _ => 0))), (x9_25, .inl (g 0, 50, .inl (fun _ => 0))), (x9_26, .inr (5, [.ref x9_27, .ref x9_28, .int 0, .int 2, .int 0, .int 0])), (x9_27, .inl (g 0, 200, .inl (fun _ => 0))), (x9_28, .inl (g 0, 6, .inl (fun _ => 0))), (x9_29, .inl (g 0, 6, .inl (fun _ => 0))), (x9_30, .inl (g 0, 6, .inl (fun _ => 0))), (x9_31, .inr (9, [.ref x9_32, .ref x9_33, .ref x9_34, .int 0, .int 0])), (x9_32, .inl (g 0, 100, .inl (fun _ => 0))), (x9_33, .inl (g 0, 200, .inl (fun _ => 0))), (x9_34, .inl (g 0, 200, .inl (fun _ => 0))), (x9_35, .inr (9, [.ref x9_36, .ref x9_37, .ref x9_38, .int 0, .int 0])), (x9_36, .inl (g 0, 100, .inl (fun _ => 0))), (x9_37, .inl (g 0, 200, .inl (fun _ => 0))), (x9_38, .inl (g 0, 200, .inl (fun _ => 0))), (x9_39, .inr (9, [.ref x9_40, .ref x9_41, .ref x9_42, .int 0, .int 0])), (x9_40, .inl (g 0, 100, .inl (fun _ => 0))), (x9_41, .inl (g 0, 200, .inl (fun _ => 0))), (x9_42, .inl (g 0, 200, .inl (fun _ => 0))), (x9_43, .inr (4, [.ref x9_44, .ref x9_47, .ref x9_50, .ref x9_51, .int 0, .ref x9_52, .ref x9_56, .ref x9_60, .int 0, .int 0, .int 0, .int 0, .int 0, .int 0, .int 0])), (x9_44, .inr (8, [.ref x9_45, .ref x9_46, .int 0])), (x9_45, .inl (g 0, 50, .inl (fun _ => 0))), (x9_46, .inl (g 0, 50, .inl (fun _ => 0))), (x9_47, .inr (5, [.ref x9_48, .ref x9_49, .int 0, .int 2, .int 0, .int 0])), (x9_48, .inl (g 0, 200, .inl (fun _ => 0))), (x9_49, .inl (g 0, 6, .inl (fun _ => 0))), (x9_50, .inl (g 0, 6, .inl (fun _ => 0))), (x9_51, .inl (g 0, 6, .inl (fun _ => 0))), (x9_52, .inr (9, [.ref x9_53, .ref x9_54, .ref x9_55, .int 0, .int 0])), (x9_53, .inl (g 0, 100, .inl (fun _ => 0))), (x9_54, .inl (g 0, 200, .inl (fun _ => 0))), (x9_55, .inl (g 0, 200, .inl (fun _ => 0))), (x9_56, .inr (9, [.ref x9_57, .ref x9_58, .ref x9_59, .int 0, .int 0])), (x9_57, .inl (g 0, 100, .inl (fun _ => 0))), (x9_58, .inl (g 0, 200, .inl (fun _ => 0))), (x9_59, .inl (g 0, 200, .inl (fun _ => 0))), (x9_60, .inr (9, [.ref x9_61, .ref x9_62, .ref x9_63, .int 0, .int 0])), (x9_61, .inl (g 0, 100, .inl (fun _ => 0))), (x9_62, .inl (g 0, 200, .inl (fun _ => 0))), (x9_63, .inl (g 0, 200, .inl (fun _ => 0))), (x9_64, .inr (7, [.ref x9_65, .ref x9_67, .ref x9_68, .int 0, .int 0, .int 0, .int 0, .int 0, .int 0, .int 0, .int 0, .int 0, .int (-1)])), (x9_65, .inr (12, [.ref x9_66, .int 0])), (x9_66, .inl (g 0, 160, .inl (fun _ => 0))), (x9_67, .inl (g 0, 3, .inl (fun _ => 0))), (x9_68, .inr (10, [.int 0, .int 1, .int 4, .int 0, .int 2])), (x9_69, .inr (3, [.ref x9_70, .ref x9_73, .ref x9_94, .ref x9_100, .ref x9_101, .ref x9_105, .ref x9_107, .int 0])), (x9_70, .inr (8, [.ref x9_71, .ref x9_72, .int 0])), (x9_71, .inl (g 0, 50, .inl (fun _ => 0))), (x9_72, .inl (g 0, 50, .inl (fun _ => 0))), (x9_73, .inr (4, [.ref x9_74, .ref x9_77, .ref x9_80, .ref x9_81, .int 0, .ref x9_82, .ref x9_86, .ref x9_90, .int 0, .int 0, .int 0, .int 0, .int 0, .int 0, .int 0])), (x9_74, .inr (8, [.ref x9_75, .ref x9_76, .int 0])), (x9_75, .inl (g 0, 50, .inl (fun _ => 0))), (x9_76, .inl (g 0, 50, .inl (fun _ => 0))), (x9_77, .inr (5, [.ref x9_78, .ref x9_79, .int 0, .int 2, .int 0, .int 0])), (x9_78, .inl (g 0, 200, .inl (fun _ => 0))), (x9_79, .inl (g 0, 6, .inl (fun _ => 0))), (x9_80, .inl (g 0, 6, .inl (fun _ => 0))), (x9_81, .inl (g 0, 6, .inl (fun _ => 0))), (x9_82, .inr (9, [.ref x9_83, .ref x9_84, .ref x9_85, .int 0, .int 0])), (x9_83, .inl (g 0, 100, .inl (fun _ => 0))), (x9_84, .inl (g 0, 200, .inl (fun _ => 0))), (x9_85, .inl (g 0, 200, .inl (fun _ => 0))), (x9_86, .inr (9, [.ref x9_87, .ref x9_88, .ref x9_89, .int 0, .int 0])), (x9_87, .inl (g 0, 100, .inl (fun _ => 0))), (x9_88, .inl (g 0, 200, .inl (fun _ => 0))), (x9_89, .inl (g 0, 200, .inl (fun _ => 0))), (x9_90, .inr (9, [.ref x9_91, .ref x9_92, .ref x9_93, .int 0, .int 0])), (x9_91, .inl (g 0, 100, .inl (fun _ => 0))), (x9_92, .inl (g 0, 200, .inl (fun _ => 0))), (x9_93, .inl (g 0, 200, .inl (fun _ => 0))), (x9_94, .inr (6, [.ref x9_95, .ref x9_98, .ref x9_99, .int 0, .int 0, .int 0, .int 0, .int 0])), (x9_95, .inr (5, [.ref x9_96, .ref x9_97, .int 0, .int 2, .int 0, .int 0])), (x9_96, .inl (g 0, 200, .inl (fun _ => 0))), (x9_97, .inl (g 0, 6, .inl (fun _ => 0))), (x9_98, .inl (g 0, 200, .inl (fun _ => 0))), (x9_99, .inl (g 0, 200, .inl (fun _ => 0))), (x9_100, .inr (10, [.int 0, .int 1, .int 4, .int 0, .int 2])), (x9_101, .inr (9, [.ref x9_102, .ref x9_103, .ref x9_104, .int 0, .int 0])), (x9_102, .inl (g 0, 100, .inl (fun _ => 0))), (x9_103, .inl (g 0, 200, .inl (fun _ => 0))), (x9_104, .inl (g 0, 200, .inl (fun _ => 0))), (x9_105, .inr (11, [.ref x9_106, .int 0])), (x9_106, .inl (g 0, 100, .inl (fun _ => 0))), (x9_107, .inl (g 0, 200, .inl (fun _ => 0))), (x9_108, .inr (11, [.ref x9_116, .int 0])), (x9_116, .inl (g 0, 100, .inl (fun _ => 0))), (x9_124, .inr (11, [.ref x9_132, .int 0])), (x9_132, .inl (g 0, 100, .inl (fun _ => 0))), (x9_109, .inr (11, [.ref x9_117, .int 0])), (x9_117, .inl (g 0, 100, .inl (fun _ => 0))), (x9_125, .inr (11, [.ref x9_133, .int 0])), (x9_133, .inl (g 0, 100, .inl (fun _ => 0))), (x9_110, .inr (11, [.ref x9_118, .int 0])), (x9_118, .inl (g 0, 100, .inl (fun _ => 0))), (x9_126, .inr (11, [.ref x9_134, .int 0])), (x9_134, .inl (g 0, 100, .inl (fun _ => 0))), (x9_111, .inr (11, [.ref x9_119, .int 0])), (x9_119, .inl (g 0, 100, .inl (fun _ => 0))), (x9_127, .inr (11, [.ref x9_135, .int 0])), (x9_135, .inl (g 0, 100, .inl (fun _ => 0))), (x9_112, .inr (11, [.ref x9_120, .int 0])), (x9_120, .inl (g 0, 100, .inl (fun _ => 0))), (x9_128, .inr (11, [.ref x9_136, .int 0])), (x9_136, .inl (g 0, 100, .inl (fun _ => 0))), (x9_113, .inr (11, [.ref x9_121, .int 0])), (x9_121, .inl (g 0, 100, .inl (fun _ => 0))), (x9_129, .inr (11, [.ref x9_137, .int 0])), (x9_137, .inl (g 0, 100, .inl (fun _ => 0))), (x9_114, .inr (11, [.ref x9_122, .int 0])), (x9_122, .inl (g 0, 100, .inl (fun _ => 0))), (x9_130, .inr (11, [.ref x9_138, .int 0])), (x9_138, .inl (g 0, 100, .inl (fun _ => 0))), (x9_115, .inr (11, [.ref x9_123, .int 0])), (x9_123, .inl (g 0, 100, .inl (fun _ => 0))), (x9_131, .inr (11, [.ref x9_139, .int 0])), (x9_139, .inl (g 0, 100, .inl (fun _ => 0)))] H) (hD : va_D A [(x9_0, .inr (13, [.ref x9_1, .ref x9_4, .ref x9_5, .ref x9_6, .ref x9_8, .ref x9_9, .ref x9_12, .ref x9_16, .ref x9_22, .ref x9_43, .ref x9_64, .ref x9_69, .int 0])), (x9_4, .inl (g 1, 8, .inr (.inr (.inr (.inr (va_up (va_up (va_up (va_up (va_up (va_up (va_up (va_up (fun _ => none) 0 (some x9_108)) 1 (some x9_109)) 2 (some x9_110)) 3 (some x9_111)) 4 (some x9_112)) 5 (some x9_113)) 6 (some x9_114)) 7 (some x9_115))))))), (x9_5, .inl (g 1, 8, .inr (.inr (.inr (.inr (va_up (va_up (va_up (va_up (va_up (va_up (va_up (va_up (fun _ => none) 0 (some x9_124)) 1 (some x9_125)) 2 (some x9_126)) 3 (some x9_127)) 4 (some x9_128)) 5 (some x9_129)) 6 (some x9_130)) 7 (some x9_131))))))), (x9_1, .inr (2, [.ref x9_2, .ref x9_3, .int 0])), (x9_2, .inl (g 0, 200, .inl (fun _ => 0))), (x9_3, .inl (g 0, 200, .inl (fun _ => 0))), (x9_6, .inr (11, [.ref x9_7, .int 0])), (x9_7, .inl (g 0, 100, .inl (fun _ => 0))), (x9_8, .inr (10, [.int 0, .int 1, .int 4, .int 0, .int 2])), (x9_9, .inr (8, [.ref x9_10, .ref x9_11, .int 0])), (x9_10, .inl (g 0, 50, .inl (fun _ => 0))), (x9_11, .inl (g 0, 50, .inl (fun _ => 0))), (x9_12, .inr (9, [.ref x9_13, .ref x9_14, .ref x9_15, .int 0, .int 0])), (x9_13, .inl (g 0, 100, .inl (fun _ => 0))), (x9_14, .inl (g 0, 200, .inl (fun _ => 0))), (x9_15, .inl (g 0, 200, .inl (fun _ => 0))), (x9_16, .inr (6, [.ref x9_17, .ref x9_20, .ref x9_21, .int 0, .int 0, .int 0, .int 0, .int 0])), (x9_17, .inr (5, [.ref x9_18, .ref x9_19, .int 0, .int 2, .int 0, .int 0])), (x9_18, .inl (g 0, 200, .inl (fun _ => 0))), (x9_19, .inl (g 0, 6, .inl (fun _ => 0))), (x9_20, .inl (g 0, 200, .inl (fun _ => 0))), (x9_21, .inl (g 0, 200, .inl (fun _ => 0))), (x9_22, .inr (4, [.ref x9_23, .ref x9_26, .ref x9_29, .ref x9_30, .int 0, .ref x9_31, .ref x9_35, .ref x9_39, .int 0, .int 0, .int 0, .int 0, .int 0, .int 0, .int 0])), (x9_23, .inr (8, [.ref x9_24, .ref x9_25, .int 0])), (x9_24, .inl (g 0, 50, .inl (fun _ => 0))), (x9_25, .inl (g 0, 50, .inl (fun _ => 0))), (x9_26, .inr (5, [.ref x9_27, .ref x9_28, .int 0, .int 2, .int 0, .int 0])), (x9_27, .inl (g 0, 200, .inl (fun _ => 0))), (x9_28, .inl (g 0, 6, .inl (fun _ => 0))), (x9_29, .inl (g 0, 6, .inl (fun _ => 0))), (x9_30, .inl (g 0, 6, .inl (fun _ => 0))), (x9_31, .inr (9, [.ref x9_32, .ref x9_33, .ref x9_34, .int 0, .int 0])), (x9_32, .inl (g 0, 100, .inl (fun _ => 0))), (x9_33, .inl (g 0, 200, .inl (fun _ => 0))), (x9_34, .inl (g 0, 200, .inl (fun _ => 0))), (x9_35, .inr (9, [.ref x9_36, .ref x9_37, .ref x9_38, .int 0, .int 0])), (x9_36, .inl (g 0, 100, .inl (fun _ => 0))), (x9_37, .inl (g 0, 200, .inl (fun _ => 0))), (x9_38, .inl (g 0, 200, .inl (fun _ => 0))), (x9_39, .inr (9, [.ref x9_40, .ref x9_41, .ref x9_42, .int 0, .int 0])), (x9_40, .inl (g 0, 100, .inl (fun _ => 0))), (x9_41, .inl (g 0, 200, .inl (fun _ => 0))), (x9_42, .inl (g 0, 200, .inl (fun _ => 0))), (x9_43, .inr (4, [.ref x9_44, .ref x9_47, .ref x9_50, .ref x9_51, .int 0, .ref x9_52, .ref x9_56, .ref x9_60, .int 0, .int 0, .int 0, .int 0, .int 0, .int 0, .int 0])), (x9_44, .inr (8, [.ref x9_45, .ref x9_46, .int 0])), (x9_45, .inl (g 0, 50, .inl (fun _ => 0))), (x9_46, .inl (g 0, 50, .inl (fun _ => 0))), (x9_47, .inr (5, [.ref x9_48, .ref x9_49, .int 0, .int 2, .int 0, .int 0])), (x9_48, .inl (g 0, 200, .inl (fun _ => 0))), (x9_49, .inl (g 0, 6, .inl (fun _ => 0))), (x9_50, .inl (g 0, 6, .inl (fun _ => 0))), (x9_51, .inl (g 0, 6, .inl (fun _ => 0))), (x9_52, .inr (9, [.ref x9_53, .ref x9_54, .ref x9_55, .int 0, .int 0])), (x9_53, .inl (g 0, 100, .inl (fun _ => 0))), (x9_54, .inl (g 0, 200, .inl (fun _ => 0))), (x9_55, .inl (g 0, 200, .inl (fun _ => 0))), (x9_56, .inr (9, [.ref x9_57, .ref x9_58, .ref x9_59, .int 0, .int 0])), (x9_57, .inl (g 0, 100, .inl (fun _ => 0))), (x9_58, .inl (g 0, 200, .inl (fun _ => 0))), (x9_59, .inl (g 0, 200, .inl (fun _ => 0))), (x9_60, .inr (9, [.ref x9_61, .ref x9_62, .ref x9_63, .int 0, .int 0])), (x9_61, .inl (g 0, 100, .inl (fun _ => 0))), (x9_62, .inl (g 0, 200, .inl (fun _ => 0))), (x9_63, .inl (g 0, 200, .inl (fun _ => 0))), (x9_64, .inr (7, [.ref x9_65, .ref x9_67, .ref x9_68, .int 0, .int 0, .int 0, .int 0, .int 0, .int 0, .int 0, .int 0, .int 0, .int (-1)])), (x9_65, .inr (12, [.ref x9_66, .int 0])), (x9_66, .inl (g 0, 160, .inl (fun _ => 0))), (x9_67, .inl (g 0, 3, .inl (fun _ => 0))), (x9_68, .inr (10, [.int 0, .int 1, .int 4, .int 0, .int 2])), (x9_69, .inr (3, [.ref x9_70, .ref x9_73, .ref x9_94, .ref x9_100, .ref x9_101, .ref x9_105, .ref x9_107, .int 0])), (x9_70, .inr (8, [.ref x9_71, .ref x9_72, .int 0])), (x9_71, .inl (g 0, 50, .inl (fun _ => 0))), (x9_72, .inl (g 0, 50, .inl (fun _ => 0))), (x9_73, .inr (4, [.ref x9_74, .ref x9_77, .ref x9_80, .ref x9_81, .int 0, .ref x9_82, .ref x9_86, .ref x9_90, .int 0, .int 0, .int 0, .int 0, .int 0, .int 0, .int 0])), (x9_74, .inr (8, [.ref x9_75, .ref x9_76, .int 0])), (x9_75, .inl (g 0, 50, .inl (fun _ => 0))), (x9_76, .inl (g 0, 50, .inl (fun _ => 0))), (x9_77, .inr (5, [.ref x9_78, .ref x9_79, .int 0, .int 2, .int 0, .int 0])), (x9_78, .inl (g 0, 200, .inl (fun _ => 0))), (x9_79, .inl (g 0, 6, .inl (fun _ => 0))), (x9_80, .inl (g 0, 6, .inl (fun _ => 0))), (x9_81, .inl (g 0, 6, .inl (fun _ => 0))), (x9_82, .inr (9, [.ref x9_83, .ref x9_84, .ref x9_85, .int 0, .int 0])), (x9_83, .inl (g 0, 100, .inl (fun _ => 0))), (x9_84, .inl (g 0, 200, .inl (fun _ => 0))), (x9_85, .inl (g 0, 200, .inl (fun _ => 0))), (x9_86, .inr (9, [.ref x9_87, .ref x9_88, .ref x9_89, .int 0, .int 0])), (x9_87, .inl (g 0, 100, .inl (fun _ => 0))), (x9_88, .inl (g 0, 200, .inl (fun _ => 0))), (x9_89, .inl (g 0, 200, .inl (fun _ => 0))), (x9_90, .inr (9, [.ref x9_91, .ref x9_92, .ref x9_93, .int 0, .int 0])), (x9_91, .inl (g 0, 100, .inl (fun _ => 0))), (x9_92, .inl (g 0, 200, .inl (fun _ => 0))), (x9_93, .inl (g 0, 200, .inl (fun _ => 0))), (x9_94, .inr (6, [.ref x9_95, .ref x9_98, .ref x9_99, .int 0, .int 0, .int 0, .int 0, .int 0])), (x9_95, .inr (5, [.ref x9_96, .ref x9_97, .int 0, .int 2, .int 0, .int 0])), (x9_96, .inl (g 0, 200, .inl (fun _ => 0))), (x9_97, .inl (g 0, 6, .inl (fun _ => 0))), (x9_98, .inl (g 0, 200, .inl (fun _ => 0))), (x9_99, .inl (g 0, 200, .inl (fun _ => 0))), (x9_100, .inr (10, [.int 0, .int 1, .int 4, .int 0, .int 2])), (x9_101, .inr (9, [.ref x9_102, .ref x9_103, .ref x9_104, .int 0, .int 0])), (x9_102, .inl (g 0, 100, .inl (fun _ => 0))), (x9_103, .inl (g 0, 200, .inl (fun _ => 0))), (x9_104, .inl (g 0, 200, .inl (fun _ => 0))), (x9_105, .inr (11, [.ref x9_106, .int 0])), (x9_106, .inl (g 0, 100, .inl (fun _ => 0))), (x9_107, .inl (g 0, 200, .inl (fun _ => 0))), (x9_108, .inr (11, [.ref x9_116, .int 0])), (x9_116, .inl (g 0, 100, .inl (fun _ => 0))), (x9_124, .inr (11, [.ref x9_132, .int 0])), (x9_132, .inl (g 0, 100, .inl (fun _ => 0))), (x9_109, .inr (11, [.ref x9_117, .int 0])), (x9_117, .inl (g 0, 100, .inl (fun _ => 0))), (x9_125, .inr (11, [.ref x9_133, .int 0])), (x9_133, .inl (g 0, 100, .inl (fun _ => 0))), (x9_110, .inr (11, [.ref x9_118, .int 0])), (x9_118, .inl (g 0, 100, .inl (fun _ => 0))), (x9_126, .inr (11, [.ref x9_134, .int 0])), (x9_134, .inl (g 0, 100, .inl (fun _ => 0))), (x9_111, .inr (11, [.ref x9_119, .int 0])), (x9_119, .inl (g 0, 100, .inl (fun _ => 0))), (x9_127, .inr (11, [.ref x9_135, .int 0])), (x9_135, .inl (g 0, 100, .inl (fun _ => 0))), (x9_112, .inr (11, [.ref x9_120, .int 0])), (x9_120, .inl (g 0, 100, .inl (fun _ => 0))), (x9_128, .inr (11, [.ref x9_136, .int 0])), (x9_136, .inl (g 0, 100, .inl (fun _ => 0))), (x9_113, .inr (11, [.ref x9_121, .int 0])), (x9_121, .inl (g 0, 100, .inl (fun _ => 0))), (x9_129, .inr (11, [.ref x9_137, .int 0])), (x9_137, .inl (g 0, 100, .inl (fun _ => 0))), (x9_114, .inr (11, [.ref x9_122, .int 0])), (x9_122, .inl (g 0, 100, .inl (fun _ => 0))), (x9_130, .inr (11, [.ref x9_138, .int 0])), (x9_138, .inl (g 0, 100, .inl (fun _ => 0))), (x9_115, .inr (11, [.ref x9_123, .int 0])), (x9_123, .inl (g 0, 100, .inl (fun _ => 0))), (x9_131, .inr (11, [.ref x9_139, .int 0])), (x9_139, .inl (g 0, 100, .inl (fun _ => 0)))]) : ∃ u : Nat → Nat, u 0 = x9_0 ∧ va_P (dC, dI) vwCl (offW u g) H ∧ va_D A (offW u g) := by
  obtain ⟨u9, g9_0, g9_1, g9_2, g9_3, g9_4, g9_5, g9_6, g9_7, g9_8, g9_9, g9_10, g9_11, g9_12, g9_13, g9_14, g9_15, g9_16, g9_17, g9_18, g9_19, g9_20, g9_21, g9_22, g9_23, g9_24, g9_25, g9_26, g9_27, g9_28, g9_29, g9_30, g9_31, g9_32, g9_33, g9_34, g9_35, g9_36, g9_37, g9_38, g9_39, g9_40, g9_41, g9_42, g9_43, g9_44, g9_45, g9_46, g9_47, g9_48, g9_49, g9_50, g9_51, g9_52, g9_53, g9_54, g9_55, g9_56, g9_57, g9_58, g9_59, g9_60, g9_61, g9_62, g9_63, g9_64, g9_65, g9_66, g9_67, g9_68, g9_69, g9_70, g9_71, g9_72, g9_73, g9_74, g9_75, g9_76, g9_77, g9_78, g9_79, g9_80, g9_81, g9_82, g9_83, g9_84, g9_85, g9_86, g9_87, g9_88, g9_89, g9_90, g9_91, g9_92, g9_93, g9_94, g9_95, g9_96, g9_97, g9_98, g9_99, g9_100, g9_101, g9_102, g9_103, g9_104, g9_105, g9_106, g9_107, g9_108, g9_109, g9_110, g9_111, g9_112, g9_113, g9_114, g9_115, g9_116, g9_117, g9_118, g9_119, g9_120, g9_121, g9_122, g9_123, g9_124, g9_125, g9_126, g9_127, g9_128, g9_129, g9_130, g9_131, g9_132, g9_133, g9_134, g9_135, g9_136, g9_137, g9_138, g9_139⟩ : ∃ u : Nat → Nat, u 0 = x9_0 ∧ u 1 = x9_1 ∧ u 2 = x9_2 ∧ u 3 = x9_3 ∧ u 4 = x9_4 ∧ u 5 = x9_5 ∧ u 6 = x9_6 ∧ u 7 = x9_7 ∧ u 8 = x9_8 ∧ u 9 = x9_9 ∧ u 10 = x9_10 ∧ u 11 = x9_11 ∧ u 12 = x9_12 ∧ u 13 = x9_13 ∧ u 14 = x9_14 ∧ u 15 = x9_15 ∧ u 16 = x9_16 ∧ u 17 = x9_17 ∧ u 18 = x9_18 ∧ u 19 = x9_19 ∧ u 20 = x9_20 ∧ u 21 = x9_21 ∧ u 22 = x9_22 ∧ u 23 = x9_23 ∧ u 24 = x9_24 ∧ u 25 = x9_25 ∧ u 26 = x9_26 ∧ u 27 = x9_27 ∧ u 28 = x9_28 ∧ u 29 = x9_29 ∧ u 30 = x9_30 ∧ u 31 = x9_31 ∧ u 32 = x9_32 ∧ u 33 = x9_33 ∧ u 34 = x9_34 ∧ u 35 = x9_35 ∧ u 36 = x9_36 ∧ u 37 = x9_37 ∧ u 38 = x9_38 ∧ u 39 = x9_39 ∧ u 40 = x9_40 ∧ u 41 = x9_41 ∧ u 42 = x9_42 ∧ u 43 = x9_43 ∧ u 44 = x9_44 ∧ u 45 = x9_45 ∧ u 46 = x9_46 ∧ u 47 = x9_47 ∧ u 48 = x9_48 ∧ u 49 = x9_49 ∧ u 50 = x9_50 ∧ u 51 = x9_51 ∧ u 52 = x9_52 ∧ u 53 = x9_53 ∧ u 54 = x9_54 ∧ u 55 = x9_55 ∧ u 56 = x9_56 ∧ u 57 = x9_57 ∧ u 58 = x9_58 ∧ u 59 = x9_59 ∧ u 60 = x9_60 ∧ u 61 = x9_61 ∧ u 62 = x9_62 ∧ u 63 = x9_63 ∧ u 64 = x9_64 ∧ u 65 = x9_65 ∧ u 66 = x9_66 ∧ u 67 = x9_67 ∧ u 68 = x9_68 ∧ u 69 = x9_69 ∧ u 70 = x9_70 ∧ u 71 = x9_71 ∧ u 72 = x9_72 ∧ u 73 = x9_73 ∧ u 74 = x9_74 ∧ u 75 = x9_75 ∧ u 76 = x9_76 ∧ u 77 = x9_77 ∧ u 78 = x9_78 ∧ u 79 = x9_79 ∧ u 80 = x9_80 ∧ u 81 = x9_81 ∧ u 82 = x9_82 ∧ u 83 = x9_83 ∧ u 84 = x9_84 ∧ u 85 = x9_85 ∧ u 86 = x9_86 ∧ u 87 = x9_87 ∧ u 88 = x9_88 ∧ u 89 = x9_89 ∧ u 90 = x9_90 ∧ u 91 = x9_91 ∧ u 92 = x9_92 ∧ u 93 = x9_93 ∧ u 94 = x9_94 ∧ u 95 = x9_95 ∧ u 96 = x9_96 ∧ u 97 = x9_97 ∧ u 98 = x9_98 ∧ u 99 = x9_99 ∧ u 100 = x9_100 ∧ u 101 = x9_101 ∧ u 102 = x9_102 ∧ u 103 = x9_103 ∧ u 104 = x9_104 ∧ u 105 = x9_105 ∧ u 106 = x9_106 ∧ u 107 = x9_107 ∧ u 108 = x9_108 ∧ u 109 = x9_109 ∧ u 110 = x9_110 ∧ u 111 = x9_111 ∧ u 112 = x9_112 ∧ u 113 = x9_113 ∧ u 114 = x9_114 ∧ u 115 = x9_115 ∧ u 116 = x9_116 ∧ u 117 = x9_117 ∧ u 118 = x9_118 ∧ u 119 = x9_119 ∧ u 120 = x9_120 ∧ u 121 = x9_121 ∧ u 122 = x9_122 ∧ u 123 = x9_123 ∧ u 124 = x9_124 ∧ u 125 = x9_125 ∧ u 126 = x9_126 ∧ u 127 = x9_127 ∧ u 128 = x9_128 ∧ u 129 = x9_129 ∧ u 130 = x9_130 ∧ u 131 = x9_131 ∧ u 132 = x9_132 ∧ u 133 = x9_133 ∧ u 134 = x9_134 ∧ u 135 = x9_135 ∧ u 136 = x9_136 ∧ u 137 = x9_137 ∧ u 138 = x9_138 ∧ u 139 = x9_139 := ⟨fun j => ([x9_0, x9_1, x9_2, x9_3, x9_4, x9_5, x9_6, x9_7, x9_8, x9_9, x9_10, x9_11, x9_12, x9_13, x9_14, x9_15, x9_16, x9_17, x9_18, x9_19, x9_20, x9_21, x9_22, x9_23, x9_24, x9_25, x9_26, x9_27, x9_28, x9_29, x9_30, x9_31, x9_32, x9_33, x9_34, x9_35, x9_36, x9_37, x9_38, x9_39, x9_40, x9_41, x9_42, x9_43, x9_44, x9_45, x9_46, x9_47, x9_48, x9_49, x9_50, x9_51, x9_52, x9_53, x9_54, x9_55, x9_56, x9_57, x9_58, x9_59, x9_60, x9_61, x9_62, x9_63, x9_64, x9_65, x9_66, x9_67, x9_68, x9_69, x9_70, x9_71, x9_72, x9_73, x9_74, x9_75, x9_76, x9_77, x9_78, x9_79, x9_80, x9_81, x9_82, x9_83, x9_84, x9_85, x9_86, x9_87, x9_88, x9_89, x9_90, x9_91, x9_92, x9_93, x9_94, x9_95, x9_96, x9_97, x9_98, x9_99, x9_100, x9_101, x9_102, x9_103, x9_104, x9_105, x9_106, x9_107, x9_108, x9_109, x9_110, x9_111, x9_112, x9_113, x9_114, x9_115, x9_116, x9_117, x9_118, x9_119, x9_120, x9_121, x9_122, x9_123, x9_124, x9_125, x9_126, x9_127, x9_128, x9_129, x9_130, x9_131, x9_132, x9_133, x9_134, x9_135, x9_136, x9_137, x9_138, x9_139] : List Nat).getD j 0, rfl, rfl, rfl, rfl, rfl, rfl, rfl, rfl, rfl, rfl, rfl, rfl, rfl, rfl, rfl, rfl, rfl, rfl, rfl, rfl, rfl, rfl, rfl, rfl, rfl, rfl, rfl, rfl, rfl, rfl, rfl, rfl, rfl, rfl, rfl, rfl, rfl, rfl, rfl, rfl, rfl, rfl, rfl, rfl, rfl, rfl, rfl, rfl, rfl, rfl, rfl, rfl, rfl, rfl, rfl, rfl, rfl, rfl, rfl, rfl, rfl, rfl, rfl, rfl, rfl, rfl, rfl, rfl, rfl, rfl, rfl, rfl, rfl, rfl, rfl, rfl, rfl, rfl, rfl, rfl, rfl, rfl, rfl, rfl, rfl, rfl, rfl, rfl, rfl, rfl, rfl, rfl, rfl, rfl, rfl, rfl, rfl, rfl, rfl, rfl, rfl, rfl, rfl, rfl, rfl, rfl, rfl, rfl, rfl, rfl, rfl, rfl, rfl, rfl, rfl, rfl, rfl, rfl, rfl, rfl, rfl, rfl, rfl, rfl, rfl, rfl, rfl, rfl, rfl, rfl, rfl, rfl, rfl, rfl, rfl, rfl, rfl, rfl, rfl, rfl⟩
  subst g9_0
  subst g9_1
  subst g9_2
  subst g9_3
  subst g9_4
  subst g9_5
  subst g9_6
  subst g9_7
  subst g9_8
  subst g9_9
  subst g9_10
  subst g9_11
  subst g9_12
  subst g9_13
  subst g9_14
  subst g9_15
  subst g9_16
  subst g9_17
  subst g9_18
  subst g9_19
  subst g9_20
  subst g9_21
  subst g9_22
  subst g9_23
  subst g9_24
  subst g9_25
  subst g9_26
  subst g9_27
  subst g9_28
  subst g9_29
  subst g9_30
  subst g9_31
  subst g9_32
  subst g9_33
  subst g9_34
  subst g9_35
  subst g9_36
  subst g9_37
  subst g9_38
  subst g9_39
  subst g9_40
  subst g9_41
  subst g9_42
  subst g9_43
  subst g9_44
  subst g9_45
  subst g9_46
  subst g9_47
  subst g9_48
  subst g9_49
  subst g9_50
  subst g9_51
  subst g9_52
  subst g9_53
  subst g9_54
  subst g9_55
  subst g9_56
  subst g9_57
  subst g9_58
  subst g9_59
  subst g9_60
  subst g9_61
  subst g9_62
  subst g9_63
  subst g9_64
  subst g9_65
  subst g9_66
  subst g9_67
  subst g9_68
  subst g9_69
  subst g9_70
  subst g9_71
  subst g9_72
  subst g9_73
  subst g9_74
  subst g9_75
  subst g9_76
  subst g9_77
  subst g9_78
  subst g9_79
  subst g9_80
  subst g9_81
  subst g9_82
  subst g9_83
  subst g9_84
  subst g9_85
  subst g9_86
  subst g9_87
  subst g9_88
  subst g9_89
  subst g9_90
  subst g9_91
  subst g9_92
  subst g9_93
  subst g9_94
  subst g9_95
  subst g9_96
  subst g9_97
  subst g9_98
  subst g9_99
  subst g9_100
  subst g9_101
  subst g9_102
  subst g9_103
  subst g9_104
  subst g9_105
  subst g9_106
  subst g9_107
  subst g9_108
  subst g9_109
  subst g9_110
  subst g9_111
  subst g9_112
  subst g9_113
  subst g9_114
  subst g9_115
  subst g9_116
  subst g9_117
  subst g9_118
  subst g9_119
  subst g9_120
  subst g9_121
  subst g9_122
  subst g9_123
  subst g9_124
  subst g9_125
  subst g9_126
  subst g9_127
  subst g9_128
  subst g9_129
  subst g9_130
  subst g9_131
  subst g9_132
  subst g9_133
  subst g9_134
  subst g9_135
  subst g9_136
  subst g9_137
  subst g9_138
  subst g9_139
  exact ⟨u9, rfl, hP.sub (ws' := offW u9 g) [0, 3, 4, 5, 1, 2, 6, 7, 8, 9, 10, 11, 12, 13, 14, 15, 16, 17, 18, 19, 20, 21, 22, 23, 24, 25, 26, 27, 28, 29, 30, 31, 32, 33, 34, 35, 36, 37, 38, 39, 40, 41, 42, 43, 44, 45, 46, 47, 48, 49, 50, 51, 52, 53, 54, 55, 56, 57, 58, 59, 60, 61, 62, 63, 64, 65, 66, 67, 68, 69, 70, 71, 72, 73, 74, 75, 76, 77, 78, 79, 80, 81, 82, 83, 84, 85, 86, 87, 88, 89, 90, 91, 92, 93, 94, 95, 96, 97, 98, 99, 100, 101, 102, 103, 104, 105, 106, 107, 108, 112, 116, 120, 124, 128, 132, 136, 109, 113, 117, 121, 125, 129, 133, 137, 110, 114, 118, 122, 126, 130, 134, 138, 111, 115, 119, 123, 127, 131, 135, 139] rfl, hD.sub (ws' := offW u9 g) [0, 3, 4, 5, 1, 2, 6, 7, 8, 9, 10, 11, 12, 13, 14, 15, 16, 17, 18, 19, 20, 21, 22, 23, 24, 25, 26, 27, 28, 29, 30, 31, 32, 33, 34, 35, 36, 37, 38, 39, 40, 41, 42, 43, 44, 45, 46, 47, 48, 49, 50, 51, 52, 53, 54, 55, 56, 57, 58, 59, 60, 61, 62, 63, 64, 65, 66, 67, 68, 69, 70, 71, 72, 73, 74, 75, 76, 77, 78, 79, 80, 81, 82, 83, 84, 85, 86, 87, 88, 89, 90, 91, 92, 93, 94, 95, 96, 97, 98, 99, 100, 101, 102, 103, 104, 105, 106, 107, 108, 112, 116, 120, 124, 128, 132, 136, 109, 113, 117, 121, 125, 129, 133, 137, 110, 114, 118, 122, 126, 130, 134, 138, 111, 115, 119, 123, 127, 131, 135, 139] (by decide +kernel) rfl⟩
set_option maxHeartbeats 100000000 in
set_option maxRecDepth 100000 in
theorem c_X11_init (l : Launch) (dC : Nat → ClassId) (dI : Nat → Nat → Nat) (g : Nat → ClassId) (t : Nat) (sz : Nat) : Met l yX11_init wsX11_init ({ frames := 4, cells := 139, slots := 10683, locals := 72 }) (va_Pc [.ref t] (PG (dC, dI) g [(t, .inr (13, [.null, .null, .null, .null, .null, .null, .null, .null, .null, .null, .null, .null, .int 0]))] sz)) (va_Qv (fun (_ : Nat → Nat) => True) (fun (u : Nat → Nat) t9 => u 0 = t ∧ va_P (dC, dI) vwCl (offW u g) t9.heap ∧ va_D (va_A [(t, .inr (13, [.null, .null, .null, .null, .null, .null, .null, .null, .null, .null, .null, .null, .int 0]))] sz) (offW u g)) (va_A [(t, .inr (13, [.null, .null, .null, .null, .null, .null, .null, .null, .null, .null, .null, .null, .int 0]))] sz)) 139 10683 (va_A [(t, .inr (13, [.null, .null, .null, .null, .null, .null, .null, .null, .null, .null, .null, .null, .int 0]))] sz) := by
  refine Met.ofW (cc := cX11_init) (maxL := 2) (ret := none) (by decide) rfl ?_
  intro p e s m args below meth c s₁ B hml hv
  obtain ⟨rfl, hsz, hP, hK, hD0, hG⟩ := hv
  have hx := B.exec
  have hb := B.bytes
  have hr := B.returns
  have hts := atoms_spec (ws := wsX11_init) B.pre
  have hown : s.vm.findClass RX11 = some m.cls := findClass_of_methodNamed B.named
  have hlocks := B.notSynchronized
  have hin : meth.name = "<init>" := (name_of_methodNamed B.named B.method).1
  subst hsz
  have hD := hD0.self (sz := s.heap.size)
  generalize hAe : va_A [(t, .inr (13, [.null, .null, .null, .null, .null, .null, .null, .null, .null, .null, .null, .null, .int 0]))] s.heap.size = A at hD hG ⊢
  have hA : ∀ q : Nat, s.heap.size ≤ q → A q := fun q h => by rw [← hAe]; exact Or.inr h
  have hS : va_S A s.heap s.heap [] := va_S.rf
  have hl := lv_entry ([.ref t]) (n := 2) (Nat.le_of_ble_eq_true rfl)
  rw [lg_entry_eq]
  generalize (lg_sl ([.ref t]) ++ List.replicate (2 - (lg_sl ([.ref t])).length) Slot.unset).toArray = ls at hl ⊢
  have hl : lv_has ls 2 [(0, .ref t)] := hl
  have hml1 := hts (Cond.methodLink RX11 1 objectInit) (by decide +kernel)
  have hoi := hts (Cond.instanceMethod objectInit) (by decide +kernel)
  have hoc := hts (Cond.code objectInit ⟨#[0xb1]⟩ 1 none) (by decide +kernel)
  have hcl7 := hts (Cond.classLink RX11 7 RX0) (by decide +kernel)
  have hinX0 := hts (Cond.instantiable RX0 3) (by decide +kernel)
  have hiniX0 := hts (Cond.initialized RX0) (by decide +kernel)
  have hiX0 : ∀ w ∈ u_ws RX0 TX0 3, w ∈ wsX11_init := by decide +kernel
  have himX0_init := hts (Cond.instanceMethod yX0_init) (by decide +kernel)
  have hf10 := hts (Cond.fieldLink RX11 10 "RunmergeOffice" "book" "LRunmergeOffice$Book;") (by decide +kernel)
  have hiX11 : ∀ w ∈ u_ws RX11 TX11 13, w ∈ wsX11_init := by decide +kernel
  have hcl16 := hts (Cond.classLink RX11 16 "RunmergeOffice$Tape") (by decide +kernel)
  have hf18 := hts (Cond.fieldLink RX11 18 "RunmergeOffice" "tapes" "[LRunmergeOffice$Tape;") (by decide +kernel)
  have hf22 := hts (Cond.fieldLink RX11 22 "RunmergeOffice" "copies" "[LRunmergeOffice$Tape;") (by decide +kernel)
  have hinX9 := hts (Cond.instantiable RX9 2) (by decide +kernel)
  have hiniX9 := hts (Cond.initialized RX9) (by decide +kernel)
  have hiX9 : ∀ w ∈ u_ws RX9 TX9 2, w ∈ wsX11_init := by decide +kernel
  have himX9_init := hts (Cond.instanceMethod yX9_init) (by decide +kernel)
  have hf26 := hts (Cond.fieldLink RX11 26 "RunmergeOffice" "joined" "LRunmergeOffice$Tape;") (by decide +kernel)
  have hcl30 := hts (Cond.classLink RX11 30 RX8) (by decide +kernel)
  have hinX8 := hts (Cond.instantiable RX8 5) (by decide +kernel)
  have hiniX8 := hts (Cond.initialized RX8) (by decide +kernel)
  have hiX8 : ∀ w ∈ u_ws RX8 TX8 5, w ∈ wsX11_init := by decide +kernel
  have himX8_init := hts (Cond.instanceMethod yX8_init) (by decide +kernel)
  have hf33 := hts (Cond.fieldLink RX11 33 "RunmergeOffice" "settings" "LRunmergeOffice$Settings;") (by decide +kernel)
  have hcl37 := hts (Cond.classLink RX11 37 RX6) (by decide +kernel)
  have hinX6 := hts (Cond.instantiable RX6 3) (by decide +kernel)
  have hiniX6 := hts (Cond.initialized RX6) (by decide +kernel)
  have hiX6 : ∀ w ∈ u_ws RX6 TX6 3, w ∈ wsX11_init := by decide +kernel
  have himX6_init := hts (Cond.instanceMethod yX6_init) (by decide +kernel)
  have hf40 := hts (Cond.fieldLink RX11 40 "RunmergeOffice" "maker" "LRunmergeOffice$RunMaker;") (by decide +kernel)
  have hcl44 := hts (Cond.classLink RX11 44 RX7) (by decide +kernel)
  have hinX7 := hts (Cond.instantiable RX7 5) (by decide +kernel)
  have hiniX7 := hts (Cond.initialized RX7) (by decide +kernel)
  have hiX7 : ∀ w ∈ u_ws RX7 TX7 5, w ∈ wsX11_init := by decide +kernel
  have himX7_init := hts (Cond.instanceMethod yX7_init) (by decide +kernel)
  have hf47 := hts (Cond.fieldLink RX11 47 "RunmergeOffice" "asked" "LRunmergeOffice$RunRow;") (by decide +kernel)
  have hcl51 := hts (Cond.classLink RX11 51 RX4) (by decide +kernel)
  have hinX4 := hts (Cond.instantiable RX4 8) (by decide +kernel)
  have hiniX4 := hts (Cond.initialized RX4) (by decide +kernel)
  have hiX4 : ∀ w ∈ u_ws RX4 TX4 8, w ∈ wsX11_init := by decide +kernel
  have himX4_init := hts (Cond.instanceMethod yX4_init) (by decide +kernel)
  have hf54 := hts (Cond.fieldLink RX11 54 "RunmergeOffice" "planned" "LRunmergeOffice$Plan;") (by decide +kernel)
  have hcl58 := hts (Cond.classLink RX11 58 RX2) (by decide +kernel)
  have hinX2 := hts (Cond.instantiable RX2 15) (by decide +kernel)
  have hiniX2 := hts (Cond.initialized RX2) (by decide +kernel)
  have hiX2 : ∀ w ∈ u_ws RX2 TX2 15, w ∈ wsX11_init := by decide +kernel
  have himX2_init := hts (Cond.instanceMethod yX2_init) (by decide +kernel)
  have hf61 := hts (Cond.fieldLink RX11 61 "RunmergeOffice" "standing" "LRunmergeOffice$Job;") (by decide +kernel)
  have hf65 := hts (Cond.fieldLink RX11 65 "RunmergeOffice" "passing" "LRunmergeOffice$Job;") (by decide +kernel)
  have hcl68 := hts (Cond.classLink RX11 68 RX5) (by decide +kernel)
  have hinX5 := hts (Cond.instantiable RX5 13) (by decide +kernel)
  have hiniX5 := hts (Cond.initialized RX5) (by decide +kernel)
  have hiX5 : ∀ w ∈ u_ws RX5 TX5 13, w ∈ wsX11_init := by decide +kernel
  have himX5_init := hts (Cond.instanceMethod yX5_init) (by decide +kernel)
  have hf71 := hts (Cond.fieldLink RX11 71 "RunmergeOffice" "reader" "LRunmergeOffice$Reader;") (by decide +kernel)
  have hcl75 := hts (Cond.classLink RX11 75 RX1) (by decide +kernel)
  have hinX1 := hts (Cond.instantiable RX1 8) (by decide +kernel)
  have hiniX1 := hts (Cond.initialized RX1) (by decide +kernel)
  have hiX1 : ∀ w ∈ u_ws RX1 TX1 8, w ∈ wsX11_init := by decide +kernel
  have himX1_init := hts (Cond.instanceMethod yX1_init) (by decide +kernel)
  have hf78 := hts (Cond.fieldLink RX11 78 "RunmergeOffice" "checker" "LRunmergeOffice$Checker;") (by decide +kernel)
  have hf82 := hts (Cond.fieldLink RX11 82 "RunmergeOffice" "hasJob" "Z") (by decide +kernel)
  obtain ⟨Y0, hY0⟩ : ∃ Z : va_W, Z = [] := ⟨_, rfl⟩
  have hP : va_P (dC, dI) vwCl ([(t, .inr (13, [.null, .null, .null, .null, .null, .null, .null, .null, .null, .null, .null, .null, .int 0]))] ++ Y0) s.heap := by rw [hY0]; exact hP
  have hD : va_D A ([(t, .inr (13, [.null, .null, .null, .null, .null, .null, .null, .null, .null, .null, .null, .null, .int 0]))] ++ Y0) := by rw [hY0]; exact hD
  refine lv_aload_n hx hb dX11_init_0 rfl (lv_at hl 0 rfl) ?_
  refine W.objInit hx hb hown hml1 hoi hoc rfl (by rw [hml]; exact hl.1) rfl dX11_init_1 (Nat.le_of_ble_eq_true rfl) (Nat.le_of_ble_eq_true rfl) ?_
  refine W.eq (g2 := F0 m 4 ls []) rfl ?_
  refine lv_aload_n hx hb dX11_init_4 rfl (lv_at hl 0 rfl) ?_
  refine va_new (ci := 2) (fs := [.null, .null, .int 0]) (C := RX0) (T := TX0) (N := 3) hx hb hts hiX0 tyX0 tyX0_ok hown hcl7 hinX0 hiniX0 hK hP hD hS hA rfl (fun j hj => by rcases (show j = 0 ∨ j = 1 ∨ j = 2 by omega) with rfl | rfl | rfl <;> rfl) (Nat.le_of_ble_eq_true rfl) (Nat.le_of_ble_eq_true rfl) dX11_init_5 (fun q_1 H_1 hP hD hS => ?_)
  have hP : va_P (dC, dI) vwCl (([(t, .inr (13, [.null, .null, .null, .null, .null, .null, .null, .null, .null, .null, .null, .null, .int 0]))] ++ Y0) ++ [(q_1, .inr (2, [.null, .null, .int 0]))]) H_1 := hP
  have hD : va_D A (([(t, .inr (13, [.null, .null, .null, .null, .null, .null, .null, .null, .null, .null, .null, .null, .int 0]))] ++ Y0) ++ [(q_1, .inr (2, [.null, .null, .int 0]))]) := hD
  refine W.widen (k := 1) (n := 3) (by omega) (by omega) ?_
  refine lv_dup hx hb dX11_init_8 rfl ?_
  have hPc := P_r hP
  have hDc := D_r hD
  have hFc : ∀ q, va_A [(q_1, .inr (2, [.null, .null, .int 0]))] H_1.size q → A q := A_all hDc hA hS.1
  refine va_callv (va_runIN (As := []) (rest := [.ref q_1, .ref t]) ⟨hx, hb, hml, hown, hts⟩ (c_X0_init l dC dI g q_1 H_1.size) ⟨va_cnB 0 hts gX11_init_X0_init_n9 rfl rfl rfl (mnl_0 hG) hiniX0 (by decide +kernel) ⟨Nat.le_of_ble_eq_true rfl, Nat.le_of_ble_eq_true rfl⟩, rfl, himX0_init⟩ ⟨PG_blind, PG_call hK hG hS hPc hDc hFc⟩ rfl rfl hl.1 rfl (lv_room (Nat.le_of_ble_eq_true rfl)) dX11_init_9 ⟨Nat.le_of_ble_eq_true rfl, Nat.le_of_ble_eq_true rfl⟩) hS (fun q _ h => hFc q h) hFc (fun u_1 t_1 J_1 L_1 ht_1 hvm_1 hw_1 hB_1 hz_1 hk_1 hS => ?_)
  obtain ⟨hP1, hD1⟩ := hB_1
  rw [ht_1] at hP1
  obtain ⟨hP, hD⟩ := join_r hP hD hk_1 hFc hP1 hD1
  refine W.widen (k := 3) (n := 403) (by omega) (by omega) ?_
  refine va_putF (D := (dC, dI)) (ci := 13) (v := .ref q_1) (ty := .object "RunmergeOffice$Book") (C := RX11) (T := TX11) (N := 13) hx hb hts hiX11 tyX11 tyX11_ok nmX11 hown hK hP hD hS 0 rfl rfl 0 (by decide) hf10 (fun _ h9 => h9) rfl hin rfl (by decide +kernel) rfl rfl (Nat.le_of_ble_eq_true rfl) dX11_init_12 (fun I_2 L_2 hP hD hS => ?_)
  obtain ⟨Y1, hY1⟩ : ∃ Z : va_W, Z = Y0 ++ [(q_1, .inr (2, [.ref (u_1 0), .ref (u_1 1), .int 0])), ((u_1 0), .inl (g 0, 200, .inl (fun _ => 0))), ((u_1 1), .inl (g 0, 200, .inl (fun _ => 0)))] := ⟨_, rfl⟩
  have hP : va_P (dC, dI) vwCl ([(t, .inr (13, [.ref q_1, .null, .null, .null, .null, .null, .null, .null, .null, .null, .null, .null, .int 0]))] ++ Y1) I_2 := by rw [hY1]; exact hP
  have hD : va_D A ([(t, .inr (13, [.ref q_1, .null, .null, .null, .null, .null, .null, .null, .null, .null, .null, .null, .int 0]))] ++ Y1) := by rw [hY1]; exact hD
  refine lv_aload_n hx hb dX11_init_15 rfl (lv_at hl 0 rfl) ?_
  refine lv_bipush (v := 8) hx hb dX11_init_16 (by decide) ?_
  refine va_newq hx hb hown hcl16 (ao_1 hG) hK hP hD hS hA (by decide) (N' := 8) (by decide) (Nat.le_of_ble_eq_true rfl) (Nat.le_of_ble_eq_true rfl) (Nat.le_of_ble_eq_true rfl) dX11_init_18 (fun q_3 cA_3 H_3 hK9 hP hD hS => ?_)
  obtain rfl : g 1 = cA_3 := K_one hK9 1 6 rfl rfl
  have hP := va_P.swap hP
  have hD := va_D.swap hD
  have hP : va_P (dC, dI) vwCl ([(t, .inr (13, [.ref q_1, .null, .null, .null, .null, .null, .null, .null, .null, .null, .null, .null, .int 0])), (q_3, .inl (g 1, 8, .inr (.inr (.inr (.inr (fun _ => none))))))] ++ Y1) H_3 := hP
  have hD : va_D A ([(t, .inr (13, [.ref q_1, .null, .null, .null, .null, .null, .null, .null, .null, .null, .null, .null, .int 0])), (q_3, .inl (g 1, 8, .inr (.inr (.inr (.inr (fun _ => none))))))] ++ Y1) := hD
  refine W.widen (k := 4) (n := 411) (by omega) (by omega) ?_
  refine va_putF (D := (dC, dI)) (ci := 13) (v := .ref q_3) (ty := .array (.object "RunmergeOffice$Tape")) (C := RX11) (T := TX11) (N := 13) hx hb hts hiX11 tyX11 tyX11_ok nmX11 hown hK hP hD hS 0 rfl rfl 1 (by decide) hf18 (fun _ h9 => h9) rfl hin rfl (by decide +kernel) rfl rfl (Nat.le_of_ble_eq_true rfl) dX11_init_21 (fun I_4 L_4 hP hD hS => ?_)
  have hP : va_P (dC, dI) vwCl ([(t, .inr (13, [.ref q_1, .ref q_3, .null, .null, .null, .null, .null, .null, .null, .null, .null, .null, .int 0])), (q_3, .inl (g 1, 8, .inr (.inr (.inr (.inr (fun _ => none))))))] ++ Y1) I_4 := hP
  have hD : va_D A ([(t, .inr (13, [.ref q_1, .ref q_3, .null, .null, .null, .null, .null, .null, .null, .null, .null, .null, .int 0])), (q_3, .inl (g 1, 8, .inr (.inr (.inr (.inr (fun _ => none))))))] ++ Y1) := hD
  refine lv_aload_n hx hb dX11_init_24 rfl (lv_at hl 0 rfl) ?_
  refine lv_bipush (v := 8) hx hb dX11_init_25 (by decide) ?_
  refine va_newq hx hb hown hcl16 (ao_1 hG) hK hP hD hS hA (by decide) (N' := 8) (by decide) (Nat.le_of_ble_eq_true rfl) (Nat.le_of_ble_eq_true rfl) (Nat.le_of_ble_eq_true rfl) dX11_init_27 (fun q_5 cA_5 H_5 hK9 hP hD hS => ?_)
  obtain rfl : g 1 = cA_5 := K_one hK9 1 6 rfl rfl
  have hP := va_P.swap hP
  have hD := va_D.swap hD
  have hP : va_P (dC, dI) vwCl ([(t, .inr (13, [.ref q_1, .ref q_3, .null, .null, .null, .null, .null, .null, .null, .null, .null, .null, .int 0])), (q_3, .inl (g 1, 8, .inr (.inr (.inr (.inr (fun _ => none)))))), (q_5, .inl (g 1, 8, .inr (.inr (.inr (.inr (fun _ => none))))))] ++ Y1) H_5 := hP
  have hD : va_D A ([(t, .inr (13, [.ref q_1, .ref q_3, .null, .null, .null, .null, .null, .null, .null, .null, .null, .null, .int 0])), (q_3, .inl (g 1, 8, .inr (.inr (.inr (.inr (fun _ => none)))))), (q_5, .inl (g 1, 8, .inr (.inr (.inr (.inr (fun _ => none))))))] ++ Y1) := hD
  refine W.widen (k := 5) (n := 419) (by omega) (by omega) ?_
  refine va_putF (D := (dC, dI)) (ci := 13) (v := .ref q_5) (ty := .array (.object "RunmergeOffice$Tape")) (C := RX11) (T := TX11) (N := 13) hx hb hts hiX11 tyX11 tyX11_ok nmX11 hown hK hP hD hS 0 rfl rfl 2 (by decide) hf22 (fun _ h9 => h9) rfl hin rfl (by decide +kernel) rfl rfl (Nat.le_of_ble_eq_true rfl) dX11_init_30 (fun I_6 L_6 hP hD hS => ?_)
  have hP : va_P (dC, dI) vwCl ([(t, .inr (13, [.ref q_1, .ref q_3, .ref q_5, .null, .null, .null, .null, .null, .null, .null, .null, .null, .int 0])), (q_3, .inl (g 1, 8, .inr (.inr (.inr (.inr (fun _ => none)))))), (q_5, .inl (g 1, 8, .inr (.inr (.inr (.inr (fun _ => none))))))] ++ Y1) I_6 := hP
  have hD : va_D A ([(t, .inr (13, [.ref q_1, .ref q_3, .ref q_5, .null, .null, .null, .null, .null, .null, .null, .null, .null, .int 0])), (q_3, .inl (g 1, 8, .inr (.inr (.inr (.inr (fun _ => none)))))), (q_5, .inl (g 1, 8, .inr (.inr (.inr (.inr (fun _ => none))))))] ++ Y1) := hD
  refine lv_aload_n hx hb dX11_init_33 rfl (lv_at hl 0 rfl) ?_
  refine va_new (ci := 11) (fs := [.null, .int 0]) (C := RX9) (T := TX9) (N := 2) hx hb hts hiX9 tyX9 tyX9_ok hown hcl16 hinX9 hiniX9 hK hP hD hS hA rfl (fun j hj => by rcases (show j = 0 ∨ j = 1 by omega) with rfl | rfl <;> rfl) (Nat.le_of_ble_eq_true rfl) (Nat.le_of_ble_eq_true rfl) dX11_init_34 (fun q_7 H_7 hP hD hS => ?_)
  have hP : va_P (dC, dI) vwCl (([(t, .inr (13, [.ref q_1, .ref q_3, .ref q_5, .null, .null, .null, .null, .null, .null, .null, .null, .null, .int 0])), (q_3, .inl (g 1, 8, .inr (.inr (.inr (.inr (fun _ => none)))))), (q_5, .inl (g 1, 8, .inr (.inr (.inr (.inr (fun _ => none))))))] ++ Y1) ++ [(q_7, .inr (11, [.null, .int 0]))]) H_7 := hP
  have hD : va_D A (([(t, .inr (13, [.ref q_1, .ref q_3, .ref q_5, .null, .null, .null, .null, .null, .null, .null, .null, .null, .int 0])), (q_3, .inl (g 1, 8, .inr (.inr (.inr (.inr (fun _ => none)))))), (q_5, .inl (g 1, 8, .inr (.inr (.inr (.inr (fun _ => none))))))] ++ Y1) ++ [(q_7, .inr (11, [.null, .int 0]))]) := hD
  refine W.widen (k := 6) (n := 421) (by omega) (by omega) ?_
  refine lv_dup hx hb dX11_init_37 rfl ?_
  have hPc := P_r hP
  have hDc := D_r hD
  have hFc : ∀ q, va_A [(q_7, .inr (11, [.null, .int 0]))] H_7.size q → A q := A_all hDc hA hS.1
  refine va_callv (va_runIN (As := []) (rest := [.ref q_7, .ref t]) ⟨hx, hb, hml, hown, hts⟩ (c_X9_init l dC dI g q_7 H_7.size) ⟨va_cnB 0 hts gX11_init_X9_init_n25 rfl rfl rfl (mnl_1 hG) hiniX9 (by decide +kernel) ⟨Nat.le_of_ble_eq_true rfl, Nat.le_of_ble_eq_true rfl⟩, rfl, himX9_init⟩ ⟨PG_blind, PG_call hK hG hS hPc hDc hFc⟩ rfl rfl hl.1 rfl (lv_room (Nat.le_of_ble_eq_true rfl)) dX11_init_38 ⟨Nat.le_of_ble_eq_true rfl, Nat.le_of_ble_eq_true rfl⟩) hS (fun q _ h => hFc q h) hFc (fun u_7 t_7 J_7 L_7 ht_7 hvm_7 hw_7 hB_7 hz_7 hk_7 hS => ?_)
  obtain ⟨hP1, hD1⟩ := hB_7
  rw [ht_7] at hP1
  obtain ⟨hP, hD⟩ := join_r hP hD hk_7 hFc hP1 hD1
  refine W.widen (k := 7) (n := 521) (by omega) (by omega) ?_
  refine va_putF (D := (dC, dI)) (ci := 13) (v := .ref q_7) (ty := .object "RunmergeOffice$Tape") (C := RX11) (T := TX11) (N := 13) hx hb hts hiX11 tyX11 tyX11_ok nmX11 hown hK hP hD hS 0 rfl rfl 3 (by decide) hf26 (fun _ h9 => h9) rfl hin rfl (by decide +kernel) rfl rfl (Nat.le_of_ble_eq_true rfl) dX11_init_41 (fun I_8 L_8 hP hD hS => ?_)
  obtain ⟨Y2, hY2⟩ : ∃ Z : va_W, Z = Y1 ++ [(q_7, .inr (11, [.ref (u_7 0), .int 0])), ((u_7 0), .inl (g 0, 100, .inl (fun _ => 0)))] := ⟨_, rfl⟩
  have hP : va_P (dC, dI) vwCl ([(t, .inr (13, [.ref q_1, .ref q_3, .ref q_5, .ref q_7, .null, .null, .null, .null, .null, .null, .null, .null, .int 0])), (q_3, .inl (g 1, 8, .inr (.inr (.inr (.inr (fun _ => none)))))), (q_5, .inl (g 1, 8, .inr (.inr (.inr (.inr (fun _ => none))))))] ++ Y2) I_8 := by rw [hY2]; exact hP
  have hD : va_D A ([(t, .inr (13, [.ref q_1, .ref q_3, .ref q_5, .ref q_7, .null, .null, .null, .null, .null, .null, .null, .null, .int 0])), (q_3, .inl (g 1, 8, .inr (.inr (.inr (.inr (fun _ => none)))))), (q_5, .inl (g 1, 8, .inr (.inr (.inr (.inr (fun _ => none))))))] ++ Y2) := by rw [hY2]; exact hD
  refine lv_aload_n hx hb dX11_init_44 rfl (lv_at hl 0 rfl) ?_
  refine va_new (ci := 10) (fs := [.int 0, .int 0, .int 0, .int 0, .int 0]) (C := RX8) (T := TX8) (N := 5) hx hb hts hiX8 tyX8 tyX8_ok hown hcl30 hinX8 hiniX8 hK hP hD hS hA rfl (fun j hj => by rcases (show j = 0 ∨ j = 1 ∨ j = 2 ∨ j = 3 ∨ j = 4 by omega) with rfl | rfl | rfl | rfl | rfl <;> rfl) (Nat.le_of_ble_eq_true rfl) (Nat.le_of_ble_eq_true rfl) dX11_init_45 (fun q_9 H_9 hP hD hS => ?_)
  have hP : va_P (dC, dI) vwCl (([(t, .inr (13, [.ref q_1, .ref q_3, .ref q_5, .ref q_7, .null, .null, .null, .null, .null, .null, .null, .null, .int 0])), (q_3, .inl (g 1, 8, .inr (.inr (.inr (.inr (fun _ => none)))))), (q_5, .inl (g 1, 8, .inr (.inr (.inr (.inr (fun _ => none))))))] ++ Y2) ++ [(q_9, .inr (10, [.int 0, .int 0, .int 0, .int 0, .int 0]))]) H_9 := hP
  have hD : va_D A (([(t, .inr (13, [.ref q_1, .ref q_3, .ref q_5, .ref q_7, .null, .null, .null, .null, .null, .null, .null, .null, .int 0])), (q_3, .inl (g 1, 8, .inr (.inr (.inr (.inr (fun _ => none)))))), (q_5, .inl (g 1, 8, .inr (.inr (.inr (.inr (fun _ => none))))))] ++ Y2) ++ [(q_9, .inr (10, [.int 0, .int 0, .int 0, .int 0, .int 0]))]) := hD
  refine W.widen (k := 8) (n := 526) (by omega) (by omega) ?_
  refine lv_dup hx hb dX11_init_48 rfl ?_
  have hPc := P_r hP
  have hDc := D_r hD
  have hFc : ∀ q, va_A [(q_9, .inr (10, [.int 0, .int 0, .int 0, .int 0, .int 0]))] H_9.size q → A q := A_all hDc hA hS.1
  refine va_callv (va_runIN (As := []) (rest := [.ref q_9, .ref t]) ⟨hx, hb, hml, hown, hts⟩ (c_X8_init l dC dI g q_9 H_9.size) ⟨va_cnB 0 hts gX11_init_X8_init_n32 rfl rfl rfl (mnl_2 hG) hiniX8 (by decide +kernel) ⟨Nat.le_of_ble_eq_true rfl, Nat.le_of_ble_eq_true rfl⟩, rfl, himX8_init⟩ ⟨PG_blind, PG_call hK hG hS hPc hDc hFc⟩ rfl rfl hl.1 rfl (lv_room (Nat.le_of_ble_eq_true rfl)) dX11_init_49 ⟨Nat.le_of_ble_eq_true rfl, Nat.le_of_ble_eq_true rfl⟩) hS (fun q _ h => hFc q h) hFc (fun u_9 t_9 J_9 L_9 ht_9 hvm_9 hw_9 hB_9 hz_9 hk_9 hS => ?_)
  obtain ⟨hP1, hD1⟩ := hB_9
  rw [ht_9] at hP1
  obtain ⟨hP, hD⟩ := join_r hP hD hk_9 hFc hP1 hD1
  refine W.widen (k := 8) (n := 526) (by omega) (by omega) ?_
  refine va_putF (D := (dC, dI)) (ci := 13) (v := .ref q_9) (ty := .object "RunmergeOffice$Settings") (C := RX11) (T := TX11) (N := 13) hx hb hts hiX11 tyX11 tyX11_ok nmX11 hown hK hP hD hS 0 rfl rfl 4 (by decide) hf33 (fun _ h9 => h9) rfl hin rfl (by decide +kernel) rfl rfl (Nat.le_of_ble_eq_true rfl) dX11_init_52 (fun I_10 L_10 hP hD hS => ?_)
  obtain ⟨Y3, hY3⟩ : ∃ Z : va_W, Z = Y2 ++ [(q_9, .inr (10, [.int 0, .int 1, .int 4, .int 0, .int 2]))] := ⟨_, rfl⟩
  have hP : va_P (dC, dI) vwCl ([(t, .inr (13, [.ref q_1, .ref q_3, .ref q_5, .ref q_7, .ref q_9, .null, .null, .null, .null, .null, .null, .null, .int 0])), (q_3, .inl (g 1, 8, .inr (.inr (.inr (.inr (fun _ => none)))))), (q_5, .inl (g 1, 8, .inr (.inr (.inr (.inr (fun _ => none))))))] ++ Y3) I_10 := by rw [hY3]; exact hP
  have hD : va_D A ([(t, .inr (13, [.ref q_1, .ref q_3, .ref q_5, .ref q_7, .ref q_9, .null, .null, .null, .null, .null, .null, .null, .int 0])), (q_3, .inl (g 1, 8, .inr (.inr (.inr (.inr (fun _ => none)))))), (q_5, .inl (g 1, 8, .inr (.inr (.inr (.inr (fun _ => none))))))] ++ Y3) := by rw [hY3]; exact hD
  refine lv_aload_n hx hb dX11_init_55 rfl (lv_at hl 0 rfl) ?_
  refine va_new (ci := 8) (fs := [.null, .null, .int 0]) (C := RX6) (T := TX6) (N := 3) hx hb hts hiX6 tyX6 tyX6_ok hown hcl37 hinX6 hiniX6 hK hP hD hS hA rfl (fun j hj => by rcases (show j = 0 ∨ j = 1 ∨ j = 2 by omega) with rfl | rfl | rfl <;> rfl) (Nat.le_of_ble_eq_true rfl) (Nat.le_of_ble_eq_true rfl) dX11_init_56 (fun q_11 H_11 hP hD hS => ?_)
  have hP : va_P (dC, dI) vwCl (([(t, .inr (13, [.ref q_1, .ref q_3, .ref q_5, .ref q_7, .ref q_9, .null, .null, .null, .null, .null, .null, .null, .int 0])), (q_3, .inl (g 1, 8, .inr (.inr (.inr (.inr (fun _ => none)))))), (q_5, .inl (g 1, 8, .inr (.inr (.inr (.inr (fun _ => none))))))] ++ Y3) ++ [(q_11, .inr (8, [.null, .null, .int 0]))]) H_11 := hP
  have hD : va_D A (([(t, .inr (13, [.ref q_1, .ref q_3, .ref q_5, .ref q_7, .ref q_9, .null, .null, .null, .null, .null, .null, .null, .int 0])), (q_3, .inl (g 1, 8, .inr (.inr (.inr (.inr (fun _ => none)))))), (q_5, .inl (g 1, 8, .inr (.inr (.inr (.inr (fun _ => none))))))] ++ Y3) ++ [(q_11, .inr (8, [.null, .null, .int 0]))]) := hD
  refine W.widen (k := 9) (n := 529) (by omega) (by omega) ?_
  refine lv_dup hx hb dX11_init_59 rfl ?_
  have hPc := P_r hP
  have hDc := D_r hD
  have hFc : ∀ q, va_A [(q_11, .inr (8, [.null, .null, .int 0]))] H_11.size q → A q := A_all hDc hA hS.1
  refine va_callv (va_runIN (As := []) (rest := [.ref q_11, .ref t]) ⟨hx, hb, hml, hown, hts⟩ (c_X6_init l dC dI g q_11 H_11.size) ⟨va_cnB 0 hts gX11_init_X6_init_n39 rfl rfl rfl (mnl_3 hG) hiniX6 (by decide +kernel) ⟨Nat.le_of_ble_eq_true rfl, Nat.le_of_ble_eq_true rfl⟩, rfl, himX6_init⟩ ⟨PG_blind, PG_call hK hG hS hPc hDc hFc⟩ rfl rfl hl.1 rfl (lv_room (Nat.le_of_ble_eq_true rfl)) dX11_init_60 ⟨Nat.le_of_ble_eq_true rfl, Nat.le_of_ble_eq_true rfl⟩) hS (fun q _ h => hFc q h) hFc (fun u_11 t_11 J_11 L_11 ht_11 hvm_11 hw_11 hB_11 hz_11 hk_11 hS => ?_)
  obtain ⟨hP1, hD1⟩ := hB_11
  rw [ht_11] at hP1
  obtain ⟨hP, hD⟩ := join_r hP hD hk_11 hFc hP1 hD1
  refine W.widen (k := 11) (n := 629) (by omega) (by omega) ?_
  refine va_putF (D := (dC, dI)) (ci := 13) (v := .ref q_11) (ty := .object "RunmergeOffice$RunMaker") (C := RX11) (T := TX11) (N := 13) hx hb hts hiX11 tyX11 tyX11_ok nmX11 hown hK hP hD hS 0 rfl rfl 5 (by decide) hf40 (fun _ h9 => h9) rfl hin rfl (by decide +kernel) rfl rfl (Nat.le_of_ble_eq_true rfl) dX11_init_63 (fun I_12 L_12 hP hD hS => ?_)
  obtain ⟨Y4, hY4⟩ : ∃ Z : va_W, Z = Y3 ++ [(q_11, .inr (8, [.ref (u_11 0), .ref (u_11 1), .int 0])), ((u_11 0), .inl (g 0, 50, .inl (fun _ => 0))), ((u_11 1), .inl (g 0, 50, .inl (fun _ => 0)))] := ⟨_, rfl⟩
  have hP : va_P (dC, dI) vwCl ([(t, .inr (13, [.ref q_1, .ref q_3, .ref q_5, .ref q_7, .ref q_9, .ref q_11, .null, .null, .null, .null, .null, .null, .int 0])), (q_3, .inl (g 1, 8, .inr (.inr (.inr (.inr (fun _ => none)))))), (q_5, .inl (g 1, 8, .inr (.inr (.inr (.inr (fun _ => none))))))] ++ Y4) I_12 := by rw [hY4]; exact hP
  have hD : va_D A ([(t, .inr (13, [.ref q_1, .ref q_3, .ref q_5, .ref q_7, .ref q_9, .ref q_11, .null, .null, .null, .null, .null, .null, .int 0])), (q_3, .inl (g 1, 8, .inr (.inr (.inr (.inr (fun _ => none)))))), (q_5, .inl (g 1, 8, .inr (.inr (.inr (.inr (fun _ => none))))))] ++ Y4) := by rw [hY4]; exact hD
  refine lv_aload_n hx hb dX11_init_66 rfl (lv_at hl 0 rfl) ?_
  refine va_new (ci := 9) (fs := [.null, .null, .null, .int 0, .int 0]) (C := RX7) (T := TX7) (N := 5) hx hb hts hiX7 tyX7 tyX7_ok hown hcl44 hinX7 hiniX7 hK hP hD hS hA rfl (fun j hj => by rcases (show j = 0 ∨ j = 1 ∨ j = 2 ∨ j = 3 ∨ j = 4 by omega) with rfl | rfl | rfl | rfl | rfl <;> rfl) (Nat.le_of_ble_eq_true rfl) (Nat.le_of_ble_eq_true rfl) dX11_init_67 (fun q_13 H_13 hP hD hS => ?_)
  have hP : va_P (dC, dI) vwCl (([(t, .inr (13, [.ref q_1, .ref q_3, .ref q_5, .ref q_7, .ref q_9, .ref q_11, .null, .null, .null, .null, .null, .null, .int 0])), (q_3, .inl (g 1, 8, .inr (.inr (.inr (.inr (fun _ => none)))))), (q_5, .inl (g 1, 8, .inr (.inr (.inr (.inr (fun _ => none))))))] ++ Y4) ++ [(q_13, .inr (9, [.null, .null, .null, .int 0, .int 0]))]) H_13 := hP
  have hD : va_D A (([(t, .inr (13, [.ref q_1, .ref q_3, .ref q_5, .ref q_7, .ref q_9, .ref q_11, .null, .null, .null, .null, .null, .null, .int 0])), (q_3, .inl (g 1, 8, .inr (.inr (.inr (.inr (fun _ => none)))))), (q_5, .inl (g 1, 8, .inr (.inr (.inr (.inr (fun _ => none))))))] ++ Y4) ++ [(q_13, .inr (9, [.null, .null, .null, .int 0, .int 0]))]) := hD
  refine W.widen (k := 12) (n := 634) (by omega) (by omega) ?_
  refine lv_dup hx hb dX11_init_70 rfl ?_
  have hPc := P_r hP
  have hDc := D_r hD
  have hFc : ∀ q, va_A [(q_13, .inr (9, [.null, .null, .null, .int 0, .int 0]))] H_13.size q → A q := A_all hDc hA hS.1
  refine va_callv (va_runIN (As := []) (rest := [.ref q_13, .ref t]) ⟨hx, hb, hml, hown, hts⟩ (c_X7_init l dC dI g q_13 H_13.size) ⟨va_cnB 0 hts gX11_init_X7_init_n46 rfl rfl rfl (mnl_4 hG) hiniX7 (by decide +kernel) ⟨Nat.le_of_ble_eq_true rfl, Nat.le_of_ble_eq_true rfl⟩, rfl, himX7_init⟩ ⟨PG_blind, PG_call hK hG hS hPc hDc hFc⟩ rfl rfl hl.1 rfl (lv_room (Nat.le_of_ble_eq_true rfl)) dX11_init_71 ⟨Nat.le_of_ble_eq_true rfl, Nat.le_of_ble_eq_true rfl⟩) hS (fun q _ h => hFc q h) hFc (fun u_13 t_13 J_13 L_13 ht_13 hvm_13 hw_13 hB_13 hz_13 hk_13 hS => ?_)
  obtain ⟨hP1, hD1⟩ := hB_13
  rw [ht_13] at hP1
  obtain ⟨hP, hD⟩ := join_r hP hD hk_13 hFc hP1 hD1
  refine W.widen (k := 15) (n := 1134) (by omega) (by omega) ?_
  refine va_putF (D := (dC, dI)) (ci := 13) (v := .ref q_13) (ty := .object "RunmergeOffice$RunRow") (C := RX11) (T := TX11) (N := 13) hx hb hts hiX11 tyX11 tyX11_ok nmX11 hown hK hP hD hS 0 rfl rfl 6 (by decide) hf47 (fun _ h9 => h9) rfl hin rfl (by decide +kernel) rfl rfl (Nat.le_of_ble_eq_true rfl) dX11_init_74 (fun I_14 L_14 hP hD hS => ?_)
  obtain ⟨Y5, hY5⟩ : ∃ Z : va_W, Z = Y4 ++ [(q_13, .inr (9, [.ref (u_13 0), .ref (u_13 1), .ref (u_13 2), .int 0, .int 0])), ((u_13 0), .inl (g 0, 100, .inl (fun _ => 0))), ((u_13 1), .inl (g 0, 200, .inl (fun _ => 0))), ((u_13 2), .inl (g 0, 200, .inl (fun _ => 0)))] := ⟨_, rfl⟩
  have hP : va_P (dC, dI) vwCl ([(t, .inr (13, [.ref q_1, .ref q_3, .ref q_5, .ref q_7, .ref q_9, .ref q_11, .ref q_13, .null, .null, .null, .null, .null, .int 0])), (q_3, .inl (g 1, 8, .inr (.inr (.inr (.inr (fun _ => none)))))), (q_5, .inl (g 1, 8, .inr (.inr (.inr (.inr (fun _ => none))))))] ++ Y5) I_14 := by rw [hY5]; exact hP
  have hD : va_D A ([(t, .inr (13, [.ref q_1, .ref q_3, .ref q_5, .ref q_7, .ref q_9, .ref q_11, .ref q_13, .null, .null, .null, .null, .null, .int 0])), (q_3, .inl (g 1, 8, .inr (.inr (.inr (.inr (fun _ => none)))))), (q_5, .inl (g 1, 8, .inr (.inr (.inr (.inr (fun _ => none))))))] ++ Y5) := by rw [hY5]; exact hD
  refine lv_aload_n hx hb dX11_init_77 rfl (lv_at hl 0 rfl) ?_
  refine va_new (ci := 6) (fs := [.null, .null, .null, .int 0, .int 0, .int 0, .int 0, .int 0]) (C := RX4) (T := TX4) (N := 8) hx hb hts hiX4 tyX4 tyX4_ok hown hcl51 hinX4 hiniX4 hK hP hD hS hA rfl (fun j hj => by rcases (show j = 0 ∨ j = 1 ∨ j = 2 ∨ j = 3 ∨ j = 4 ∨ j = 5 ∨ j = 6 ∨ j = 7 by omega) with rfl | rfl | rfl | rfl | rfl | rfl | rfl | rfl <;> rfl) (Nat.le_of_ble_eq_true rfl) (Nat.le_of_ble_eq_true rfl) dX11_init_78 (fun q_15 H_15 hP hD hS => ?_)
  have hP : va_P (dC, dI) vwCl (([(t, .inr (13, [.ref q_1, .ref q_3, .ref q_5, .ref q_7, .ref q_9, .ref q_11, .ref q_13, .null, .null, .null, .null, .null, .int 0])), (q_3, .inl (g 1, 8, .inr (.inr (.inr (.inr (fun _ => none)))))), (q_5, .inl (g 1, 8, .inr (.inr (.inr (.inr (fun _ => none))))))] ++ Y5) ++ [(q_15, .inr (6, [.null, .null, .null, .int 0, .int 0, .int 0, .int 0, .int 0]))]) H_15 := hP
  have hD : va_D A (([(t, .inr (13, [.ref q_1, .ref q_3, .ref q_5, .ref q_7, .ref q_9, .ref q_11, .ref q_13, .null, .null, .null, .null, .null, .int 0])), (q_3, .inl (g 1, 8, .inr (.inr (.inr (.inr (fun _ => none)))))), (q_5, .inl (g 1, 8, .inr (.inr (.inr (.inr (fun _ => none))))))] ++ Y5) ++ [(q_15, .inr (6, [.null, .null, .null, .int 0, .int 0, .int 0, .int 0, .int 0]))]) := hD
  refine W.widen (k := 16) (n := 1142) (by omega) (by omega) ?_
  refine lv_dup hx hb dX11_init_81 rfl ?_
  have hPc := P_r hP
  have hDc := D_r hD
  have hFc : ∀ q, va_A [(q_15, .inr (6, [.null, .null, .null, .int 0, .int 0, .int 0, .int 0, .int 0]))] H_15.size q → A q := A_all hDc hA hS.1
  refine va_callv (va_runIN (As := []) (rest := [.ref q_15, .ref t]) ⟨hx, hb, hml, hown, hts⟩ (c_X4_init l dC dI g q_15 H_15.size) ⟨va_cnB 0 hts gX11_init_X4_init_n53 rfl rfl rfl (mnl_5 hG) hiniX4 (by decide +kernel) ⟨Nat.le_of_ble_eq_true rfl, Nat.le_of_ble_eq_true rfl⟩, rfl, himX4_init⟩ ⟨PG_blind, PG_call hK hG hS hPc hDc hFc⟩ rfl rfl hl.1 rfl (lv_room (Nat.le_of_ble_eq_true rfl)) dX11_init_82 ⟨Nat.le_of_ble_eq_true rfl, Nat.le_of_ble_eq_true rfl⟩) hS (fun q _ h => hFc q h) hFc (fun u_15 t_15 J_15 L_15 ht_15 hvm_15 hw_15 hB_15 hz_15 hk_15 hS => ?_)
  obtain ⟨hP1, hD1⟩ := hB_15
  rw [ht_15] at hP1
  obtain ⟨hP, hD⟩ := join_r hP hD hk_15 hFc hP1 hD1
  refine W.widen (k := 21) (n := 1754) (by omega) (by omega) ?_
  refine va_putF (D := (dC, dI)) (ci := 13) (v := .ref q_15) (ty := .object "RunmergeOffice$Plan") (C := RX11) (T := TX11) (N := 13) hx hb hts hiX11 tyX11 tyX11_ok nmX11 hown hK hP hD hS 0 rfl rfl 7 (by decide) hf54 (fun _ h9 => h9) rfl hin rfl (by decide +kernel) rfl rfl (Nat.le_of_ble_eq_true rfl) dX11_init_85 (fun I_16 L_16 hP hD hS => ?_)
  obtain ⟨Y6, hY6⟩ : ∃ Z : va_W, Z = Y5 ++ [(q_15, .inr (6, [.ref (u_15 0), .ref (u_15 3), .ref (u_15 4), .int 0, .int 0, .int 0, .int 0, .int 0])), ((u_15 0), .inr (5, [.ref (u_15 1), .ref (u_15 2), .int 0, .int 2, .int 0, .int 0])), ((u_15 1), .inl (g 0, 200, .inl (fun _ => 0))), ((u_15 2), .inl (g 0, 6, .inl (fun _ => 0))), ((u_15 3), .inl (g 0, 200, .inl (fun _ => 0))), ((u_15 4), .inl (g 0, 200, .inl (fun _ => 0)))] := ⟨_, rfl⟩
  have hP : va_P (dC, dI) vwCl ([(t, .inr (13, [.ref q_1, .ref q_3, .ref q_5, .ref q_7, .ref q_9, .ref q_11, .ref q_13, .ref q_15, .null, .null, .null, .null, .int 0])), (q_3, .inl (g 1, 8, .inr (.inr (.inr (.inr (fun _ => none)))))), (q_5, .inl (g 1, 8, .inr (.inr (.inr (.inr (fun _ => none))))))] ++ Y6) I_16 := by rw [hY6]; exact hP
  have hD : va_D A ([(t, .inr (13, [.ref q_1, .ref q_3, .ref q_5, .ref q_7, .ref q_9, .ref q_11, .ref q_13, .ref q_15, .null, .null, .null, .null, .int 0])), (q_3, .inl (g 1, 8, .inr (.inr (.inr (.inr (fun _ => none)))))), (q_5, .inl (g 1, 8, .inr (.inr (.inr (.inr (fun _ => none))))))] ++ Y6) := by rw [hY6]; exact hD
  refine lv_aload_n hx hb dX11_init_88 rfl (lv_at hl 0 rfl) ?_
  refine va_new (ci := 4) (fs := [.null, .null, .null, .null, .int 0, .null, .null, .null, .int 0, .int 0, .int 0, .int 0, .int 0, .int 0, .int 0]) (C := RX2) (T := TX2) (N := 15) hx hb hts hiX2 tyX2 tyX2_ok hown hcl58 hinX2 hiniX2 hK hP hD hS hA rfl (fun j hj => by rcases (show j = 0 ∨ j = 1 ∨ j = 2 ∨ j = 3 ∨ j = 4 ∨ j = 5 ∨ j = 6 ∨ j = 7 ∨ j = 8 ∨ j = 9 ∨ j = 10 ∨ j = 11 ∨ j = 12 ∨ j = 13 ∨ j = 14 by omega) with rfl | rfl | rfl | rfl | rfl | rfl | rfl | rfl | rfl | rfl | rfl | rfl | rfl | rfl | rfl <;> rfl) (Nat.le_of_ble_eq_true rfl) (Nat.le_of_ble_eq_true rfl) dX11_init_89 (fun q_17 H_17 hP hD hS => ?_)
  have hP : va_P (dC, dI) vwCl (([(t, .inr (13, [.ref q_1, .ref q_3, .ref q_5, .ref q_7, .ref q_9, .ref q_11, .ref q_13, .ref q_15, .null, .null, .null, .null, .int 0])), (q_3, .inl (g 1, 8, .inr (.inr (.inr (.inr (fun _ => none)))))), (q_5, .inl (g 1, 8, .inr (.inr (.inr (.inr (fun _ => none))))))] ++ Y6) ++ [(q_17, .inr (4, [.null, .null, .null, .null, .int 0, .null, .null, .null, .int 0, .int 0, .int 0, .int 0, .int 0, .int 0, .int 0]))]) H_17 := hP
  have hD : va_D A (([(t, .inr (13, [.ref q_1, .ref q_3, .ref q_5, .ref q_7, .ref q_9, .ref q_11, .ref q_13, .ref q_15, .null, .null, .null, .null, .int 0])), (q_3, .inl (g 1, 8, .inr (.inr (.inr (.inr (fun _ => none)))))), (q_5, .inl (g 1, 8, .inr (.inr (.inr (.inr (fun _ => none))))))] ++ Y6) ++ [(q_17, .inr (4, [.null, .null, .null, .null, .int 0, .null, .null, .null, .int 0, .int 0, .int 0, .int 0, .int 0, .int 0, .int 0]))]) := hD
  refine W.widen (k := 22) (n := 1769) (by omega) (by omega) ?_
  refine lv_dup hx hb dX11_init_92 rfl ?_
  have hPc := P_r hP
  have hDc := D_r hD
  have hFc : ∀ q, va_A [(q_17, .inr (4, [.null, .null, .null, .null, .int 0, .null, .null, .null, .int 0, .int 0, .int 0, .int 0, .int 0, .int 0, .int 0]))] H_17.size q → A q := A_all hDc hA hS.1
  refine va_callv (va_runIN (As := []) (rest := [.ref q_17, .ref t]) ⟨hx, hb, hml, hown, hts⟩ (c_X2_init l dC dI g q_17 H_17.size) ⟨va_cnB 0 hts gX11_init_X2_init_n60 rfl rfl rfl (mnl_7 hG) hiniX2 (by decide +kernel) ⟨Nat.le_of_ble_eq_true rfl, Nat.le_of_ble_eq_true rfl⟩, rfl, himX2_init⟩ ⟨PG_blind, PG_call hK hG hS hPc hDc hFc⟩ rfl rfl hl.1 rfl (lv_room (Nat.le_of_ble_eq_true rfl)) dX11_init_93 ⟨Nat.le_of_ble_eq_true rfl, Nat.le_of_ble_eq_true rfl⟩) hS (fun q _ h => hFc q h) hFc (fun u_17 t_17 J_17 L_17 ht_17 hvm_17 hw_17 hB_17 hz_17 hk_17 hS => ?_)
  obtain ⟨hP1, hD1⟩ := hB_17
  rw [ht_17] at hP1
  obtain ⟨hP, hD⟩ := join_r hP hD hk_17 hFc hP1 hD1
  refine W.widen (k := 42) (n := 3611) (by omega) (by omega) ?_
  refine va_putF (D := (dC, dI)) (ci := 13) (v := .ref q_17) (ty := .object "RunmergeOffice$Job") (C := RX11) (T := TX11) (N := 13) hx hb hts hiX11 tyX11 tyX11_ok nmX11 hown hK hP hD hS 0 rfl rfl 8 (by decide) hf61 (fun _ h9 => h9) rfl hin rfl (by decide +kernel) rfl rfl (Nat.le_of_ble_eq_true rfl) dX11_init_96 (fun I_18 L_18 hP hD hS => ?_)
  obtain ⟨Y7, hY7⟩ : ∃ Z : va_W, Z = Y6 ++ [(q_17, .inr (4, [.ref (u_17 0), .ref (u_17 3), .ref (u_17 6), .ref (u_17 7), .int 0, .ref (u_17 8), .ref (u_17 12), .ref (u_17 16), .int 0, .int 0, .int 0, .int 0, .int 0, .int 0, .int 0])), ((u_17 0), .inr (8, [.ref (u_17 1), .ref (u_17 2), .int 0])), ((u_17 1), .inl (g 0, 50, .inl (fun _ => 0))), ((u_17 2), .inl (g 0, 50, .inl (fun _ => 0))), ((u_17 3), .inr (5, [.ref (u_17 4), .ref (u_17 5), .int 0, .int 2, .int 0, .int 0])), ((u_17 4), .inl (g 0, 200, .inl (fun _ => 0))), ((u_17 5), .inl (g 0, 6, .inl (fun _ => 0))), ((u_17 6), .inl (g 0, 6, .inl (fun _ => 0))), ((u_17 7), .inl (g 0, 6, .inl (fun _ => 0))), ((u_17 8), .inr (9, [.ref (u_17 9), .ref (u_17 10), .ref (u_17 11), .int 0, .int 0])), ((u_17 9), .inl (g 0, 100, .inl (fun _ => 0))), ((u_17 10), .inl (g 0, 200, .inl (fun _ => 0))), ((u_17 11), .inl (g 0, 200, .inl (fun _ => 0))), ((u_17 12), .inr (9, [.ref (u_17 13), .ref (u_17 14), .ref (u_17 15), .int 0, .int 0])), ((u_17 13), .inl (g 0, 100, .inl (fun _ => 0))), ((u_17 14), .inl (g 0, 200, .inl (fun _ => 0))), ((u_17 15), .inl (g 0, 200, .inl (fun _ => 0))), ((u_17 16), .inr (9, [.ref (u_17 17), .ref (u_17 18), .ref (u_17 19), .int 0, .int 0])), ((u_17 17), .inl (g 0, 100, .inl (fun _ => 0))), ((u_17 18), .inl (g 0, 200, .inl (fun _ => 0))), ((u_17 19), .inl (g 0, 200, .inl (fun _ => 0)))] := ⟨_, rfl⟩
  have hP : va_P (dC, dI) vwCl ([(t, .inr (13, [.ref q_1, .ref q_3, .ref q_5, .ref q_7, .ref q_9, .ref q_11, .ref q_13, .ref q_15, .ref q_17, .null, .null, .null, .int 0])), (q_3, .inl (g 1, 8, .inr (.inr (.inr (.inr (fun _ => none)))))), (q_5, .inl (g 1, 8, .inr (.inr (.inr (.inr (fun _ => none))))))] ++ Y7) I_18 := by rw [hY7]; exact hP
  have hD : va_D A ([(t, .inr (13, [.ref q_1, .ref q_3, .ref q_5, .ref q_7, .ref q_9, .ref q_11, .ref q_13, .ref q_15, .ref q_17, .null, .null, .null, .int 0])), (q_3, .inl (g 1, 8, .inr (.inr (.inr (.inr (fun _ => none)))))), (q_5, .inl (g 1, 8, .inr (.inr (.inr (.inr (fun _ => none))))))] ++ Y7) := by rw [hY7]; exact hD
  refine lv_aload_n hx hb dX11_init_99 rfl (lv_at hl 0 rfl) ?_
  refine va_new (ci := 4) (fs := [.null, .null, .null, .null, .int 0, .null, .null, .null, .int 0, .int 0, .int 0, .int 0, .int 0, .int 0, .int 0]) (C := RX2) (T := TX2) (N := 15) hx hb hts hiX2 tyX2 tyX2_ok hown hcl58 hinX2 hiniX2 hK hP hD hS hA rfl (fun j hj => by rcases (show j = 0 ∨ j = 1 ∨ j = 2 ∨ j = 3 ∨ j = 4 ∨ j = 5 ∨ j = 6 ∨ j = 7 ∨ j = 8 ∨ j = 9 ∨ j = 10 ∨ j = 11 ∨ j = 12 ∨ j = 13 ∨ j = 14 by omega) with rfl | rfl | rfl | rfl | rfl | rfl | rfl | rfl | rfl | rfl | rfl | rfl | rfl | rfl | rfl <;> rfl) (Nat.le_of_ble_eq_true rfl) (Nat.le_of_ble_eq_true rfl) dX11_init_100 (fun q_19 H_19 hP hD hS => ?_)
  have hP : va_P (dC, dI) vwCl (([(t, .inr (13, [.ref q_1, .ref q_3, .ref q_5, .ref q_7, .ref q_9, .ref q_11, .ref q_13, .ref q_15, .ref q_17, .null, .null, .null, .int 0])), (q_3, .inl (g 1, 8, .inr (.inr (.inr (.inr (fun _ => none)))))), (q_5, .inl (g 1, 8, .inr (.inr (.inr (.inr (fun _ => none))))))] ++ Y7) ++ [(q_19, .inr (4, [.null, .null, .null, .null, .int 0, .null, .null, .null, .int 0, .int 0, .int 0, .int 0, .int 0, .int 0, .int 0]))]) H_19 := hP
  have hD : va_D A (([(t, .inr (13, [.ref q_1, .ref q_3, .ref q_5, .ref q_7, .ref q_9, .ref q_11, .ref q_13, .ref q_15, .ref q_17, .null, .null, .null, .int 0])), (q_3, .inl (g 1, 8, .inr (.inr (.inr (.inr (fun _ => none)))))), (q_5, .inl (g 1, 8, .inr (.inr (.inr (.inr (fun _ => none))))))] ++ Y7) ++ [(q_19, .inr (4, [.null, .null, .null, .null, .int 0, .null, .null, .null, .int 0, .int 0, .int 0, .int 0, .int 0, .int 0, .int 0]))]) := hD
  refine W.widen (k := 43) (n := 3626) (by omega) (by omega) ?_
  refine lv_dup hx hb dX11_init_103 rfl ?_
  have hPc := P_r hP
  have hDc := D_r hD
  have hFc : ∀ q, va_A [(q_19, .inr (4, [.null, .null, .null, .null, .int 0, .null, .null, .null, .int 0, .int 0, .int 0, .int 0, .int 0, .int 0, .int 0]))] H_19.size q → A q := A_all hDc hA hS.1
  refine va_callv (va_runIN (As := []) (rest := [.ref q_19, .ref t]) ⟨hx, hb, hml, hown, hts⟩ (c_X2_init l dC dI g q_19 H_19.size) ⟨va_cnB 0 hts gX11_init_X2_init_n60 rfl rfl rfl (mnl_7 hG) hiniX2 (by decide +kernel) ⟨Nat.le_of_ble_eq_true rfl, Nat.le_of_ble_eq_true rfl⟩, rfl, himX2_init⟩ ⟨PG_blind, PG_call hK hG hS hPc hDc hFc⟩ rfl rfl hl.1 rfl (lv_room (Nat.le_of_ble_eq_true rfl)) dX11_init_104 ⟨Nat.le_of_ble_eq_true rfl, Nat.le_of_ble_eq_true rfl⟩) hS (fun q _ h => hFc q h) hFc (fun u_19 t_19 J_19 L_19 ht_19 hvm_19 hw_19 hB_19 hz_19 hk_19 hS => ?_)
  obtain ⟨hP1, hD1⟩ := hB_19
  rw [ht_19] at hP1
  obtain ⟨hP, hD⟩ := join_r hP hD hk_19 hFc hP1 hD1
  refine W.widen (k := 63) (n := 5468) (by omega) (by omega) ?_
  refine va_putF (D := (dC, dI)) (ci := 13) (v := .ref q_19) (ty := .object "RunmergeOffice$Job") (C := RX11) (T := TX11) (N := 13) hx hb hts hiX11 tyX11 tyX11_ok nmX11 hown hK hP hD hS 0 rfl rfl 9 (by decide) hf65 (fun _ h9 => h9) rfl hin rfl (by decide +kernel) rfl rfl (Nat.le_of_ble_eq_true rfl) dX11_init_107 (fun I_20 L_20 hP hD hS => ?_)
  obtain ⟨Y8, hY8⟩ : ∃ Z : va_W, Z = Y7 ++ [(q_19, .inr (4, [.ref (u_19 0), .ref (u_19 3), .ref (u_19 6), .ref (u_19 7), .int 0, .ref (u_19 8), .ref (u_19 12), .ref (u_19 16), .int 0, .int 0, .int 0, .int 0, .int 0, .int 0, .int 0])), ((u_19 0), .inr (8, [.ref (u_19 1), .ref (u_19 2), .int 0])), ((u_19 1), .inl (g 0, 50, .inl (fun _ => 0))), ((u_19 2), .inl (g 0, 50, .inl (fun _ => 0))), ((u_19 3), .inr (5, [.ref (u_19 4), .ref (u_19 5), .int 0, .int 2, .int 0, .int 0])), ((u_19 4), .inl (g 0, 200, .inl (fun _ => 0))), ((u_19 5), .inl (g 0, 6, .inl (fun _ => 0))), ((u_19 6), .inl (g 0, 6, .inl (fun _ => 0))), ((u_19 7), .inl (g 0, 6, .inl (fun _ => 0))), ((u_19 8), .inr (9, [.ref (u_19 9), .ref (u_19 10), .ref (u_19 11), .int 0, .int 0])), ((u_19 9), .inl (g 0, 100, .inl (fun _ => 0))), ((u_19 10), .inl (g 0, 200, .inl (fun _ => 0))), ((u_19 11), .inl (g 0, 200, .inl (fun _ => 0))), ((u_19 12), .inr (9, [.ref (u_19 13), .ref (u_19 14), .ref (u_19 15), .int 0, .int 0])), ((u_19 13), .inl (g 0, 100, .inl (fun _ => 0))), ((u_19 14), .inl (g 0, 200, .inl (fun _ => 0))), ((u_19 15), .inl (g 0, 200, .inl (fun _ => 0))), ((u_19 16), .inr (9, [.ref (u_19 17), .ref (u_19 18), .ref (u_19 19), .int 0, .int 0])), ((u_19 17), .inl (g 0, 100, .inl (fun _ => 0))), ((u_19 18), .inl (g 0, 200, .inl (fun _ => 0))), ((u_19 19), .inl (g 0, 200, .inl (fun _ => 0)))] := ⟨_, rfl⟩
  have hP : va_P (dC, dI) vwCl ([(t, .inr (13, [.ref q_1, .ref q_3, .ref q_5, .ref q_7, .ref q_9, .ref q_11, .ref q_13, .ref q_15, .ref q_17, .ref q_19, .null, .null, .int 0])), (q_3, .inl (g 1, 8, .inr (.inr (.inr (.inr (fun _ => none)))))), (q_5, .inl (g 1, 8, .inr (.inr (.inr (.inr (fun _ => none))))))] ++ Y8) I_20 := by rw [hY8]; exact hP
  have hD : va_D A ([(t, .inr (13, [.ref q_1, .ref q_3, .ref q_5, .ref q_7, .ref q_9, .ref q_11, .ref q_13, .ref q_15, .ref q_17, .ref q_19, .null, .null, .int 0])), (q_3, .inl (g 1, 8, .inr (.inr (.inr (.inr (fun _ => none)))))), (q_5, .inl (g 1, 8, .inr (.inr (.inr (.inr (fun _ => none))))))] ++ Y8) := by rw [hY8]; exact hD
  refine lv_aload_n hx hb dX11_init_110 rfl (lv_at hl 0 rfl) ?_
  refine va_new (ci := 7) (fs := [.null, .null, .null, .int 0, .int 0, .int 0, .int 0, .int 0, .int 0, .int 0, .int 0, .int 0, .int 0]) (C := RX5) (T := TX5) (N := 13) hx hb hts hiX5 tyX5 tyX5_ok hown hcl68 hinX5 hiniX5 hK hP hD hS hA rfl (fun j hj => by rcases (show j = 0 ∨ j = 1 ∨ j = 2 ∨ j = 3 ∨ j = 4 ∨ j = 5 ∨ j = 6 ∨ j = 7 ∨ j = 8 ∨ j = 9 ∨ j = 10 ∨ j = 11 ∨ j = 12 by omega) with rfl | rfl | rfl | rfl | rfl | rfl | rfl | rfl | rfl | rfl | rfl | rfl | rfl <;> rfl) (Nat.le_of_ble_eq_true rfl) (Nat.le_of_ble_eq_true rfl) dX11_init_111 (fun q_21 H_21 hP hD hS => ?_)
  have hP : va_P (dC, dI) vwCl (([(t, .inr (13, [.ref q_1, .ref q_3, .ref q_5, .ref q_7, .ref q_9, .ref q_11, .ref q_13, .ref q_15, .ref q_17, .ref q_19, .null, .null, .int 0])), (q_3, .inl (g 1, 8, .inr (.inr (.inr (.inr (fun _ => none)))))), (q_5, .inl (g 1, 8, .inr (.inr (.inr (.inr (fun _ => none))))))] ++ Y8) ++ [(q_21, .inr (7, [.null, .null, .null, .int 0, .int 0, .int 0, .int 0, .int 0, .int 0, .int 0, .int 0, .int 0, .int 0]))]) H_21 := hP
  have hD : va_D A (([(t, .inr (13, [.ref q_1, .ref q_3, .ref q_5, .ref q_7, .ref q_9, .ref q_11, .ref q_13, .ref q_15, .ref q_17, .ref q_19, .null, .null, .int 0])), (q_3, .inl (g 1, 8, .inr (.inr (.inr (.inr (fun _ => none)))))), (q_5, .inl (g 1, 8, .inr (.inr (.inr (.inr (fun _ => none))))))] ++ Y8) ++ [(q_21, .inr (7, [.null, .null, .null, .int 0, .int 0, .int 0, .int 0, .int 0, .int 0, .int 0, .int 0, .int 0, .int 0]))]) := hD
  refine W.widen (k := 64) (n := 5481) (by omega) (by omega) ?_
  refine lv_dup hx hb dX11_init_114 rfl ?_
  have hPc := P_r hP
  have hDc := D_r hD
  have hFc : ∀ q, va_A [(q_21, .inr (7, [.null, .null, .null, .int 0, .int 0, .int 0, .int 0, .int 0, .int 0, .int 0, .int 0, .int 0, .int 0]))] H_21.size q → A q := A_all hDc hA hS.1
  refine va_callv (va_runIN (As := []) (rest := [.ref q_21, .ref t]) ⟨hx, hb, hml, hown, hts⟩ (c_X5_init l dC dI g q_21 H_21.size) ⟨va_cnB 0 hts gX11_init_X5_init_n70 rfl rfl rfl (mnl_11 hG) hiniX5 (by decide +kernel) ⟨Nat.le_of_ble_eq_true rfl, Nat.le_of_ble_eq_true rfl⟩, rfl, himX5_init⟩ ⟨PG_blind, PG_call hK hG hS hPc hDc hFc⟩ rfl rfl hl.1 rfl (lv_room (Nat.le_of_ble_eq_true rfl)) dX11_init_115 ⟨Nat.le_of_ble_eq_true rfl, Nat.le_of_ble_eq_true rfl⟩) hS (fun q _ h => hFc q h) hFc (fun u_21 t_21 J_21 L_21 ht_21 hvm_21 hw_21 hB_21 hz_21 hk_21 hS => ?_)
  obtain ⟨hP1, hD1⟩ := hB_21
  rw [ht_21] at hP1
  obtain ⟨hP, hD⟩ := join_r hP hD hk_21 hFc hP1 hD1
  refine W.widen (k := 68) (n := 5651) (by omega) (by omega) ?_
  refine va_putF (D := (dC, dI)) (ci := 13) (v := .ref q_21) (ty := .object "RunmergeOffice$Reader") (C := RX11) (T := TX11) (N := 13) hx hb hts hiX11 tyX11 tyX11_ok nmX11 hown hK hP hD hS 0 rfl rfl 10 (by decide) hf71 (fun _ h9 => h9) rfl hin rfl (by decide +kernel) rfl rfl (Nat.le_of_ble_eq_true rfl) dX11_init_118 (fun I_22 L_22 hP hD hS => ?_)
  obtain ⟨Y9, hY9⟩ : ∃ Z : va_W, Z = Y8 ++ [(q_21, .inr (7, [.ref (u_21 0), .ref (u_21 2), .ref (u_21 3), .int 0, .int 0, .int 0, .int 0, .int 0, .int 0, .int 0, .int 0, .int 0, .int (-1)])), ((u_21 0), .inr (12, [.ref (u_21 1), .int 0])), ((u_21 1), .inl (g 0, 160, .inl (fun _ => 0))), ((u_21 2), .inl (g 0, 3, .inl (fun _ => 0))), ((u_21 3), .inr (10, [.int 0, .int 1, .int 4, .int 0, .int 2]))] := ⟨_, rfl⟩
  have hP : va_P (dC, dI) vwCl ([(t, .inr (13, [.ref q_1, .ref q_3, .ref q_5, .ref q_7, .ref q_9, .ref q_11, .ref q_13, .ref q_15, .ref q_17, .ref q_19, .ref q_21, .null, .int 0])), (q_3, .inl (g 1, 8, .inr (.inr (.inr (.inr (fun _ => none)))))), (q_5, .inl (g 1, 8, .inr (.inr (.inr (.inr (fun _ => none))))))] ++ Y9) I_22 := by rw [hY9]; exact hP
  have hD : va_D A ([(t, .inr (13, [.ref q_1, .ref q_3, .ref q_5, .ref q_7, .ref q_9, .ref q_11, .ref q_13, .ref q_15, .ref q_17, .ref q_19, .ref q_21, .null, .int 0])), (q_3, .inl (g 1, 8, .inr (.inr (.inr (.inr (fun _ => none)))))), (q_5, .inl (g 1, 8, .inr (.inr (.inr (.inr (fun _ => none))))))] ++ Y9) := by rw [hY9]; exact hD
  refine lv_aload_n hx hb dX11_init_121 rfl (lv_at hl 0 rfl) ?_
  refine va_new (ci := 3) (fs := [.null, .null, .null, .null, .null, .null, .null, .int 0]) (C := RX1) (T := TX1) (N := 8) hx hb hts hiX1 tyX1 tyX1_ok hown hcl75 hinX1 hiniX1 hK hP hD hS hA rfl (fun j hj => by rcases (show j = 0 ∨ j = 1 ∨ j = 2 ∨ j = 3 ∨ j = 4 ∨ j = 5 ∨ j = 6 ∨ j = 7 by omega) with rfl | rfl | rfl | rfl | rfl | rfl | rfl | rfl <;> rfl) (Nat.le_of_ble_eq_true rfl) (Nat.le_of_ble_eq_true rfl) dX11_init_122 (fun q_23 H_23 hP hD hS => ?_)
  have hP : va_P (dC, dI) vwCl (([(t, .inr (13, [.ref q_1, .ref q_3, .ref q_5, .ref q_7, .ref q_9, .ref q_11, .ref q_13, .ref q_15, .ref q_17, .ref q_19, .ref q_21, .null, .int 0])), (q_3, .inl (g 1, 8, .inr (.inr (.inr (.inr (fun _ => none)))))), (q_5, .inl (g 1, 8, .inr (.inr (.inr (.inr (fun _ => none))))))] ++ Y9) ++ [(q_23, .inr (3, [.null, .null, .null, .null, .null, .null, .null, .int 0]))]) H_23 := hP
  have hD : va_D A (([(t, .inr (13, [.ref q_1, .ref q_3, .ref q_5, .ref q_7, .ref q_9, .ref q_11, .ref q_13, .ref q_15, .ref q_17, .ref q_19, .ref q_21, .null, .int 0])), (q_3, .inl (g 1, 8, .inr (.inr (.inr (.inr (fun _ => none)))))), (q_5, .inl (g 1, 8, .inr (.inr (.inr (.inr (fun _ => none))))))] ++ Y9) ++ [(q_23, .inr (3, [.null, .null, .null, .null, .null, .null, .null, .int 0]))]) := hD
  refine W.widen (k := 69) (n := 5659) (by omega) (by omega) ?_
  refine lv_dup hx hb dX11_init_125 rfl ?_
  have hPc := P_r hP
  have hDc := D_r hD
  have hFc : ∀ q, va_A [(q_23, .inr (3, [.null, .null, .null, .null, .null, .null, .null, .int 0]))] H_23.size q → A q := A_all hDc hA hS.1
  refine va_callv (va_runIN (As := []) (rest := [.ref q_23, .ref t]) ⟨hx, hb, hml, hown, hts⟩ (c_X1_init l dC dI g q_23 H_23.size) ⟨va_cnB 0 hts gX11_init_X1_init_n77 rfl rfl rfl (mnl_14 hG) hiniX1 (by decide +kernel) ⟨Nat.le_of_ble_eq_true rfl, Nat.le_of_ble_eq_true rfl⟩, rfl, himX1_init⟩ ⟨PG_blind, PG_call hK hG hS hPc hDc hFc⟩ rfl rfl hl.1 rfl (lv_room (Nat.le_of_ble_eq_true rfl)) dX11_init_126 ⟨Nat.le_of_ble_eq_true rfl, Nat.le_of_ble_eq_true rfl⟩) hS (fun q _ h => hFc q h) hFc (fun u_23 t_23 J_23 L_23 ht_23 hvm_23 hw_23 hB_23 hz_23 hk_23 hS => ?_)
  obtain ⟨hP1, hD1⟩ := hB_23
  rw [ht_23] at hP1
  obtain ⟨hP, hD⟩ := join_r hP hD hk_23 hFc hP1 hD1
  refine W.widen (k := 107) (n := 9051) (by omega) (by omega) ?_
  refine va_putF (D := (dC, dI)) (ci := 13) (v := .ref q_23) (ty := .object "RunmergeOffice$Checker") (C := RX11) (T := TX11) (N := 13) hx hb hts hiX11 tyX11 tyX11_ok nmX11 hown hK hP hD hS 0 rfl rfl 11 (by decide) hf78 (fun _ h9 => h9) rfl hin rfl (by decide +kernel) rfl rfl (Nat.le_of_ble_eq_true rfl) dX11_init_129 (fun I_24 L_24 hP hD hS => ?_)
  obtain ⟨Y10, hY10⟩ : ∃ Z : va_W, Z = Y9 ++ [(q_23, .inr (3, [.ref (u_23 0), .ref (u_23 3), .ref (u_23 24), .ref (u_23 30), .ref (u_23 31), .ref (u_23 35), .ref (u_23 37), .int 0])), ((u_23 0), .inr (8, [.ref (u_23 1), .ref (u_23 2), .int 0])), ((u_23 1), .inl (g 0, 50, .inl (fun _ => 0))), ((u_23 2), .inl (g 0, 50, .inl (fun _ => 0))), ((u_23 3), .inr (4, [.ref (u_23 4), .ref (u_23 7), .ref (u_23 10), .ref (u_23 11), .int 0, .ref (u_23 12), .ref (u_23 16), .ref (u_23 20), .int 0, .int 0, .int 0, .int 0, .int 0, .int 0, .int 0])), ((u_23 4), .inr (8, [.ref (u_23 5), .ref (u_23 6), .int 0])), ((u_23 5), .inl (g 0, 50, .inl (fun _ => 0))), ((u_23 6), .inl (g 0, 50, .inl (fun _ => 0))), ((u_23 7), .inr (5, [.ref (u_23 8), .ref (u_23 9), .int 0, .int 2, .int 0, .int 0])), ((u_23 8), .inl (g 0, 200, .inl (fun _ => 0))), ((u_23 9), .inl (g 0, 6, .inl (fun _ => 0))), ((u_23 10), .inl (g 0, 6, .inl (fun _ => 0))), ((u_23 11), .inl (g 0, 6, .inl (fun _ => 0))), ((u_23 12), .inr (9, [.ref (u_23 13), .ref (u_23 14), .ref (u_23 15), .int 0, .int 0])), ((u_23 13), .inl (g 0, 100, .inl (fun _ => 0))), ((u_23 14), .inl (g 0, 200, .inl (fun _ => 0))), ((u_23 15), .inl (g 0, 200, .inl (fun _ => 0))), ((u_23 16), .inr (9, [.ref (u_23 17), .ref (u_23 18), .ref (u_23 19), .int 0, .int 0])), ((u_23 17), .inl (g 0, 100, .inl (fun _ => 0))), ((u_23 18), .inl (g 0, 200, .inl (fun _ => 0))), ((u_23 19), .inl (g 0, 200, .inl (fun _ => 0))), ((u_23 20), .inr (9, [.ref (u_23 21), .ref (u_23 22), .ref (u_23 23), .int 0, .int 0])), ((u_23 21), .inl (g 0, 100, .inl (fun _ => 0))), ((u_23 22), .inl (g 0, 200, .inl (fun _ => 0))), ((u_23 23), .inl (g 0, 200, .inl (fun _ => 0))), ((u_23 24), .inr (6, [.ref (u_23 25), .ref (u_23 28), .ref (u_23 29), .int 0, .int 0, .int 0, .int 0, .int 0])), ((u_23 25), .inr (5, [.ref (u_23 26), .ref (u_23 27), .int 0, .int 2, .int 0, .int 0])), ((u_23 26), .inl (g 0, 200, .inl (fun _ => 0))), ((u_23 27), .inl (g 0, 6, .inl (fun _ => 0))), ((u_23 28), .inl (g 0, 200, .inl (fun _ => 0))), ((u_23 29), .inl (g 0, 200, .inl (fun _ => 0))), ((u_23 30), .inr (10, [.int 0, .int 1, .int 4, .int 0, .int 2])), ((u_23 31), .inr (9, [.ref (u_23 32), .ref (u_23 33), .ref (u_23 34), .int 0, .int 0])), ((u_23 32), .inl (g 0, 100, .inl (fun _ => 0))), ((u_23 33), .inl (g 0, 200, .inl (fun _ => 0))), ((u_23 34), .inl (g 0, 200, .inl (fun _ => 0))), ((u_23 35), .inr (11, [.ref (u_23 36), .int 0])), ((u_23 36), .inl (g 0, 100, .inl (fun _ => 0))), ((u_23 37), .inl (g 0, 200, .inl (fun _ => 0)))] := ⟨_, rfl⟩
  have hP : va_P (dC, dI) vwCl ([(t, .inr (13, [.ref q_1, .ref q_3, .ref q_5, .ref q_7, .ref q_9, .ref q_11, .ref q_13, .ref q_15, .ref q_17, .ref q_19, .ref q_21, .ref q_23, .int 0])), (q_3, .inl (g 1, 8, .inr (.inr (.inr (.inr (fun _ => none)))))), (q_5, .inl (g 1, 8, .inr (.inr (.inr (.inr (fun _ => none))))))] ++ Y10) I_24 := by rw [hY10]; exact hP
  have hD : va_D A ([(t, .inr (13, [.ref q_1, .ref q_3, .ref q_5, .ref q_7, .ref q_9, .ref q_11, .ref q_13, .ref q_15, .ref q_17, .ref q_19, .ref q_21, .ref q_23, .int 0])), (q_3, .inl (g 1, 8, .inr (.inr (.inr (.inr (fun _ => none)))))), (q_5, .inl (g 1, 8, .inr (.inr (.inr (.inr (fun _ => none))))))] ++ Y10) := by rw [hY10]; exact hD
  refine lv_aload_n hx hb dX11_init_132 rfl (lv_at hl 0 rfl) ?_
  refine lv_iconst (v := 0) hx hb dX11_init_133 (by decide) ?_
  refine va_putS (D := (dC, dI)) (ci := 13) (v := .int 0) (ty := .boolean) (C := RX11) (T := TX11) (N := 13) hx hb hts hiX11 tyX11 tyX11_ok nmX11 hown hK hP hD hS 0 rfl rfl 12 (by decide) hf82 (fun _ h9 => h9) rfl (by decide +kernel) rfl rfl (Nat.le_of_ble_eq_true rfl) rfl dX11_init_134 (fun I_25 L_25 hP hS => ?_)
  refine lv_iconst (v := 0) hx hb dX11_init_137 (by decide) ?_
  refine lv_istore_n (lv' := [(1, .int 0), (0, .ref t)]) hx hb dX11_init_138 rfl hl (by decide) rfl (fun ls hl => ?_)
  refine lv_iload_n hx hb dX11_init_139 rfl (lv_at hl 0 rfl) ?_
  refine lv_bipush (v := 8) hx hb dX11_init_140 (by decide) ?_
  refine lv_icmp_ge (tgt := 177) hx hb dX11_init_142 (by decide) (fun c9 => absurd c9 (by decide)) (fun _ => ?_)
  refine lv_aload_n hx hb dX11_init_145 rfl (lv_at hl 1 rfl) ?_
  refine va_get (D := (dC, dI)) (ci := 13) (v := .ref q_3) (C := RX11) (T := TX11) (N := 13) hx hb hts hiX11 hown hK hP 0 rfl rfl 1 (by decide) hf18 (fun _ h9 => h9) rfl dX11_init_146 ?_
  refine lv_iload_n hx hb dX11_init_149 rfl (lv_at hl 0 rfl) ?_
  refine va_new (ci := 11) (fs := [.null, .int 0]) (C := RX9) (T := TX9) (N := 2) hx hb hts hiX9 tyX9 tyX9_ok hown hcl16 hinX9 hiniX9 hK hP hD hS hA rfl (fun j hj => by rcases (show j = 0 ∨ j = 1 by omega) with rfl | rfl <;> rfl) (Nat.le_of_ble_eq_true rfl) (Nat.le_of_ble_eq_true rfl) dX11_init_150 (fun q_26 H_26 hP hD hS => ?_)
  have hP : va_P (dC, dI) vwCl (([(t, .inr (13, [.ref q_1, .ref q_3, .ref q_5, .ref q_7, .ref q_9, .ref q_11, .ref q_13, .ref q_15, .ref q_17, .ref q_19, .ref q_21, .ref q_23, .int 0])), (q_3, .inl (g 1, 8, .inr (.inr (.inr (.inr (fun _ => none)))))), (q_5, .inl (g 1, 8, .inr (.inr (.inr (.inr (fun _ => none))))))] ++ Y10) ++ [(q_26, .inr (11, [.null, .int 0]))]) H_26 := hP
  have hD : va_D A (([(t, .inr (13, [.ref q_1, .ref q_3, .ref q_5, .ref q_7, .ref q_9, .ref q_11, .ref q_13, .ref q_15, .ref q_17, .ref q_19, .ref q_21, .ref q_23, .int 0])), (q_3, .inl (g 1, 8, .inr (.inr (.inr (.inr (fun _ => none)))))), (q_5, .inl (g 1, 8, .inr (.inr (.inr (.inr (fun _ => none))))))] ++ Y10) ++ [(q_26, .inr (11, [.null, .int 0]))]) := hD
  refine W.widen (k := 108) (n := 9053) (by omega) (by omega) ?_
  refine lv_dup hx hb dX11_init_153 rfl ?_
  have hPc := P_r hP
  have hDc := D_r hD
  have hFc : ∀ q, va_A [(q_26, .inr (11, [.null, .int 0]))] H_26.size q → A q := A_all hDc hA hS.1
  refine va_callv (va_runIN (As := []) (rest := [.ref q_26, .int 0, .ref q_3]) ⟨hx, hb, hml, hown, hts⟩ (c_X9_init l dC dI g q_26 H_26.size) ⟨va_cnB 0 hts gX11_init_X9_init_n25 rfl rfl rfl (mnl_1 hG) hiniX9 (by decide +kernel) ⟨Nat.le_of_ble_eq_true rfl, Nat.le_of_ble_eq_true rfl⟩, rfl, himX9_init⟩ ⟨PG_blind, PG_call hK hG hS hPc hDc hFc⟩ rfl rfl hl.1 rfl (lv_room (Nat.le_of_ble_eq_true rfl)) dX11_init_154 ⟨Nat.le_of_ble_eq_true rfl, Nat.le_of_ble_eq_true rfl⟩) hS (fun q _ h => hFc q h) hFc (fun u_26 t_26 J_26 L_26 ht_26 hvm_26 hw_26 hB_26 hz_26 hk_26 hS => ?_)
  obtain ⟨hP1, hD1⟩ := hB_26
  rw [ht_26] at hP1
  obtain ⟨hP, hD⟩ := join_r hP hD hk_26 hFc hP1 hD1
  refine W.widen (k := 109) (n := 9153) (by omega) (by omega) ?_
  refine va_astq hx hb hK hP hD hS 1 1 ((([(t, .inr (13, [.ref q_1, .ref q_3, .ref q_5, .ref q_7, .ref q_9, .ref q_11, .ref q_13, .ref q_15, .ref q_17, .ref q_19, .ref q_21, .ref q_23, .int 0])), (q_3, .inl (g 1, 8, .inr (.inr (.inr (.inr (fun _ => none)))))), (q_5, .inl (g 1, 8, .inr (.inr (.inr (.inr (fun _ => none))))))] : va_W) ++ Y10).length + 0) 11 rfl rfl (app_r (W1 := ([(t, .inr (13, [.ref q_1, .ref q_3, .ref q_5, .ref q_7, .ref q_9, .ref q_11, .ref q_13, .ref q_15, .ref q_17, .ref q_19, .ref q_21, .ref q_23, .int 0])), (q_3, .inl (g 1, 8, .inr (.inr (.inr (.inr (fun _ => none)))))), (q_5, .inl (g 1, 8, .inr (.inr (.inr (.inr (fun _ => none))))))] : va_W) ++ Y10) (k := 0) rfl) rfl (by unfold vp_in; decide) dX11_init_157 (fun I_27 L_27 hP hD hS => ?_)
  obtain ⟨Y11, hY11⟩ : ∃ Z : va_W, Z = Y10 ++ [(q_26, .inr (11, [.ref (u_26 0), .int 0])), ((u_26 0), .inl (g 0, 100, .inl (fun _ => 0)))] := ⟨_, rfl⟩
  have hP : va_P (dC, dI) vwCl ([(t, .inr (13, [.ref q_1, .ref q_3, .ref q_5, .ref q_7, .ref q_9, .ref q_11, .ref q_13, .ref q_15, .ref q_17, .ref q_19, .ref q_21, .ref q_23, .int 0])), (q_3, .inl (g 1, 8, .inr (.inr (.inr (.inr (va_up (fun _ => none) 0 (some q_26))))))), (q_5, .inl (g 1, 8, .inr (.inr (.inr (.inr (fun _ => none))))))] ++ Y11) I_27 := by rw [hY11]; exact hP
  have hD : va_D A ([(t, .inr (13, [.ref q_1, .ref q_3, .ref q_5, .ref q_7, .ref q_9, .ref q_11, .ref q_13, .ref q_15, .ref q_17, .ref q_19, .ref q_21, .ref q_23, .int 0])), (q_3, .inl (g 1, 8, .inr (.inr (.inr (.inr (va_up (fun _ => none) 0 (some q_26))))))), (q_5, .inl (g 1, 8, .inr (.inr (.inr (.inr (fun _ => none))))))] ++ Y11) := by rw [hY11]; exact hD
  refine lv_aload_n hx hb dX11_init_158 rfl (lv_at hl 1 rfl) ?_
  refine va_get (D := (dC, dI)) (ci := 13) (v := .ref q_5) (C := RX11) (T := TX11) (N := 13) hx hb hts hiX11 hown hK hP 0 rfl rfl 2 (by decide) hf22 (fun _ h9 => h9) rfl dX11_init_159 ?_
  refine lv_iload_n hx hb dX11_init_162 rfl (lv_at hl 0 rfl) ?_
  refine va_new (ci := 11) (fs := [.null, .int 0]) (C := RX9) (T := TX9) (N := 2) hx hb hts hiX9 tyX9 tyX9_ok hown hcl16 hinX9 hiniX9 hK hP hD hS hA rfl (fun j hj => by rcases (show j = 0 ∨ j = 1 by omega) with rfl | rfl <;> rfl) (Nat.le_of_ble_eq_true rfl) (Nat.le_of_ble_eq_true rfl) dX11_init_163 (fun q_28 H_28 hP hD hS => ?_)
  have hP : va_P (dC, dI) vwCl (([(t, .inr (13, [.ref q_1, .ref q_3, .ref q_5, .ref q_7, .ref q_9, .ref q_11, .ref q_13, .ref q_15, .ref q_17, .ref q_19, .ref q_21, .ref q_23, .int 0])), (q_3, .inl (g 1, 8, .inr (.inr (.inr (.inr (va_up (fun _ => none) 0 (some q_26))))))), (q_5, .inl (g 1, 8, .inr (.inr (.inr (.inr (fun _ => none))))))] ++ Y11) ++ [(q_28, .inr (11, [.null, .int 0]))]) H_28 := hP
  have hD : va_D A (([(t, .inr (13, [.ref q_1, .ref q_3, .ref q_5, .ref q_7, .ref q_9, .ref q_11, .ref q_13, .ref q_15, .ref q_17, .ref q_19, .ref q_21, .ref q_23, .int 0])), (q_3, .inl (g 1, 8, .inr (.inr (.inr (.inr (va_up (fun _ => none) 0 (some q_26))))))), (q_5, .inl (g 1, 8, .inr (.inr (.inr (.inr (fun _ => none))))))] ++ Y11) ++ [(q_28, .inr (11, [.null, .int 0]))]) := hD
  refine W.widen (k := 110) (n := 9155) (by omega) (by omega) ?_
  refine lv_dup hx hb dX11_init_166 rfl ?_
  have hPc := P_r hP
  have hDc := D_r hD
  have hFc : ∀ q, va_A [(q_28, .inr (11, [.null, .int 0]))] H_28.size q → A q := A_all hDc hA hS.1
  refine va_callv (va_runIN (As := []) (rest := [.ref q_28, .int 0, .ref q_5]) ⟨hx, hb, hml, hown, hts⟩ (c_X9_init l dC dI g q_28 H_28.size) ⟨va_cnB 0 hts gX11_init_X9_init_n25 rfl rfl rfl (mnl_1 hG) hiniX9 (by decide +kernel) ⟨Nat.le_of_ble_eq_true rfl, Nat.le_of_ble_eq_true rfl⟩, rfl, himX9_init⟩ ⟨PG_blind, PG_call hK hG hS hPc hDc hFc⟩ rfl rfl hl.1 rfl (lv_room (Nat.le_of_ble_eq_true rfl)) dX11_init_167 ⟨Nat.le_of_ble_eq_true rfl, Nat.le_of_ble_eq_true rfl⟩) hS (fun q _ h => hFc q h) hFc (fun u_28 t_28 J_28 L_28 ht_28 hvm_28 hw_28 hB_28 hz_28 hk_28 hS => ?_)
  obtain ⟨hP1, hD1⟩ := hB_28
  rw [ht_28] at hP1
  obtain ⟨hP, hD⟩ := join_r hP hD hk_28 hFc hP1 hD1
  refine W.widen (k := 111) (n := 9255) (by omega) (by omega) ?_
  refine va_astq hx hb hK hP hD hS 2 1 ((([(t, .inr (13, [.ref q_1, .ref q_3, .ref q_5, .ref q_7, .ref q_9, .ref q_11, .ref q_13, .ref q_15, .ref q_17, .ref q_19, .ref q_21, .ref q_23, .int 0])), (q_3, .inl (g 1, 8, .inr (.inr (.inr (.inr (va_up (fun _ => none) 0 (some q_26))))))), (q_5, .inl (g 1, 8, .inr (.inr (.inr (.inr (fun _ => none))))))] : va_W) ++ Y11).length + 0) 11 rfl rfl (app_r (W1 := ([(t, .inr (13, [.ref q_1, .ref q_3, .ref q_5, .ref q_7, .ref q_9, .ref q_11, .ref q_13, .ref q_15, .ref q_17, .ref q_19, .ref q_21, .ref q_23, .int 0])), (q_3, .inl (g 1, 8, .inr (.inr (.inr (.inr (va_up (fun _ => none) 0 (some q_26))))))), (q_5, .inl (g 1, 8, .inr (.inr (.inr (.inr (fun _ => none))))))] : va_W) ++ Y11) (k := 0) rfl) rfl (by unfold vp_in; decide) dX11_init_170 (fun I_29 L_29 hP hD hS => ?_)
  obtain ⟨Y12, hY12⟩ : ∃ Z : va_W, Z = Y11 ++ [(q_28, .inr (11, [.ref (u_28 0), .int 0])), ((u_28 0), .inl (g 0, 100, .inl (fun _ => 0)))] := ⟨_, rfl⟩
  have hP : va_P (dC, dI) vwCl ([(t, .inr (13, [.ref q_1, .ref q_3, .ref q_5, .ref q_7, .ref q_9, .ref q_11, .ref q_13, .ref q_15, .ref q_17, .ref q_19, .ref q_21, .ref q_23, .int 0])), (q_3, .inl (g 1, 8, .inr (.inr (.inr (.inr (va_up (fun _ => none) 0 (some q_26))))))), (q_5, .inl (g 1, 8, .inr (.inr (.inr (.inr (va_up (fun _ => none) 0 (some q_28)))))))] ++ Y12) I_29 := by rw [hY12]; exact hP
  have hD : va_D A ([(t, .inr (13, [.ref q_1, .ref q_3, .ref q_5, .ref q_7, .ref q_9, .ref q_11, .ref q_13, .ref q_15, .ref q_17, .ref q_19, .ref q_21, .ref q_23, .int 0])), (q_3, .inl (g 1, 8, .inr (.inr (.inr (.inr (va_up (fun _ => none) 0 (some q_26))))))), (q_5, .inl (g 1, 8, .inr (.inr (.inr (.inr (va_up (fun _ => none) 0 (some q_28)))))))] ++ Y12) := by rw [hY12]; exact hD
  refine lv_iinc (v := 1) (lv' := [(1, .int 1), (0, .ref t)]) hx hb dX11_init_171 hl (k := 0) rfl (by decide) (by decide) rfl (fun ls hl => ?_)
  refine lv_goto (tgt := 139) hx hb dX11_init_174 (by decide) ?_
  refine lv_iload_n hx hb dX11_init_139 rfl (lv_at hl 0 rfl) ?_
  refine lv_bipush (v := 8) hx hb dX11_init_140 (by decide) ?_
  refine lv_icmp_ge (tgt := 177) hx hb dX11_init_142 (by decide) (fun c9 => absurd c9 (by decide)) (fun _ => ?_)
  refine lv_aload_n hx hb dX11_init_145 rfl (lv_at hl 1 rfl) ?_
  refine va_get (D := (dC, dI)) (ci := 13) (v := .ref q_3) (C := RX11) (T := TX11) (N := 13) hx hb hts hiX11 hown hK hP 0 rfl rfl 1 (by decide) hf18 (fun _ h9 => h9) rfl dX11_init_146 ?_
  refine lv_iload_n hx hb dX11_init_149 rfl (lv_at hl 0 rfl) ?_
  refine va_new (ci := 11) (fs := [.null, .int 0]) (C := RX9) (T := TX9) (N := 2) hx hb hts hiX9 tyX9 tyX9_ok hown hcl16 hinX9 hiniX9 hK hP hD hS hA rfl (fun j hj => by rcases (show j = 0 ∨ j = 1 by omega) with rfl | rfl <;> rfl) (Nat.le_of_ble_eq_true rfl) (Nat.le_of_ble_eq_true rfl) dX11_init_150 (fun q_30 H_30 hP hD hS => ?_)
  have hP : va_P (dC, dI) vwCl (([(t, .inr (13, [.ref q_1, .ref q_3, .ref q_5, .ref q_7, .ref q_9, .ref q_11, .ref q_13, .ref q_15, .ref q_17, .ref q_19, .ref q_21, .ref q_23, .int 0])), (q_3, .inl (g 1, 8, .inr (.inr (.inr (.inr (va_up (fun _ => none) 0 (some q_26))))))), (q_5, .inl (g 1, 8, .inr (.inr (.inr (.inr (va_up (fun _ => none) 0 (some q_28)))))))] ++ Y12) ++ [(q_30, .inr (11, [.null, .int 0]))]) H_30 := hP
  have hD : va_D A (([(t, .inr (13, [.ref q_1, .ref q_3, .ref q_5, .ref q_7, .ref q_9, .ref q_11, .ref q_13, .ref q_15, .ref q_17, .ref q_19, .ref q_21, .ref q_23, .int 0])), (q_3, .inl (g 1, 8, .inr (.inr (.inr (.inr (va_up (fun _ => none) 0 (some q_26))))))), (q_5, .inl (g 1, 8, .inr (.inr (.inr (.inr (va_up (fun _ => none) 0 (some q_28)))))))] ++ Y12) ++ [(q_30, .inr (11, [.null, .int 0]))]) := hD
  refine W.widen (k := 112) (n := 9257) (by omega) (by omega) ?_
  refine lv_dup hx hb dX11_init_153 rfl ?_
  have hPc := P_r hP
  have hDc := D_r hD
  have hFc : ∀ q, va_A [(q_30, .inr (11, [.null, .int 0]))] H_30.size q → A q := A_all hDc hA hS.1
  refine va_callv (va_runIN (As := []) (rest := [.ref q_30, .int 1, .ref q_3]) ⟨hx, hb, hml, hown, hts⟩ (c_X9_init l dC dI g q_30 H_30.size) ⟨va_cnB 0 hts gX11_init_X9_init_n25 rfl rfl rfl (mnl_1 hG) hiniX9 (by decide +kernel) ⟨Nat.le_of_ble_eq_true rfl, Nat.le_of_ble_eq_true rfl⟩, rfl, himX9_init⟩ ⟨PG_blind, PG_call hK hG hS hPc hDc hFc⟩ rfl rfl hl.1 rfl (lv_room (Nat.le_of_ble_eq_true rfl)) dX11_init_154 ⟨Nat.le_of_ble_eq_true rfl, Nat.le_of_ble_eq_true rfl⟩) hS (fun q _ h => hFc q h) hFc (fun u_30 t_30 J_30 L_30 ht_30 hvm_30 hw_30 hB_30 hz_30 hk_30 hS => ?_)
  obtain ⟨hP1, hD1⟩ := hB_30
  rw [ht_30] at hP1
  obtain ⟨hP, hD⟩ := join_r hP hD hk_30 hFc hP1 hD1
  refine W.widen (k := 113) (n := 9357) (by omega) (by omega) ?_
  refine va_astq hx hb hK hP hD hS 1 1 ((([(t, .inr (13, [.ref q_1, .ref q_3, .ref q_5, .ref q_7, .ref q_9, .ref q_11, .ref q_13, .ref q_15, .ref q_17, .ref q_19, .ref q_21, .ref q_23, .int 0])), (q_3, .inl (g 1, 8, .inr (.inr (.inr (.inr (va_up (fun _ => none) 0 (some q_26))))))), (q_5, .inl (g 1, 8, .inr (.inr (.inr (.inr (va_up (fun _ => none) 0 (some q_28)))))))] : va_W) ++ Y12).length + 0) 11 rfl rfl (app_r (W1 := ([(t, .inr (13, [.ref q_1, .ref q_3, .ref q_5, .ref q_7, .ref q_9, .ref q_11, .ref q_13, .ref q_15, .ref q_17, .ref q_19, .ref q_21, .ref q_23, .int 0])), (q_3, .inl (g 1, 8, .inr (.inr (.inr (.inr (va_up (fun _ => none) 0 (some q_26))))))), (q_5, .inl (g 1, 8, .inr (.inr (.inr (.inr (va_up (fun _ => none) 0 (some q_28)))))))] : va_W) ++ Y12) (k := 0) rfl) rfl (by unfold vp_in; decide) dX11_init_157 (fun I_31 L_31 hP hD hS => ?_)
  obtain ⟨Y13, hY13⟩ : ∃ Z : va_W, Z = Y12 ++ [(q_30, .inr (11, [.ref (u_30 0), .int 0])), ((u_30 0), .inl (g 0, 100, .inl (fun _ => 0)))] := ⟨_, rfl⟩
  have hP : va_P (dC, dI) vwCl ([(t, .inr (13, [.ref q_1, .ref q_3, .ref q_5, .ref q_7, .ref q_9, .ref q_11, .ref q_13, .ref q_15, .ref q_17, .ref q_19, .ref q_21, .ref q_23, .int 0])), (q_3, .inl (g 1, 8, .inr (.inr (.inr (.inr (va_up (va_up (fun _ => none) 0 (some q_26)) 1 (some q_30))))))), (q_5, .inl (g 1, 8, .inr (.inr (.inr (.inr (va_up (fun _ => none) 0 (some q_28)))))))] ++ Y13) I_31 := by rw [hY13]; exact hP
  have hD : va_D A ([(t, .inr (13, [.ref q_1, .ref q_3, .ref q_5, .ref q_7, .ref q_9, .ref q_11, .ref q_13, .ref q_15, .ref q_17, .ref q_19, .ref q_21, .ref q_23, .int 0])), (q_3, .inl (g 1, 8, .inr (.inr (.inr (.inr (va_up (va_up (fun _ => none) 0 (some q_26)) 1 (some q_30))))))), (q_5, .inl (g 1, 8, .inr (.inr (.inr (.inr (va_up (fun _ => none) 0 (some q_28)))))))] ++ Y13) := by rw [hY13]; exact hD
  refine lv_aload_n hx hb dX11_init_158 rfl (lv_at hl 1 rfl) ?_
  refine va_get (D := (dC, dI)) (ci := 13) (v := .ref q_5) (C := RX11) (T := TX11) (N := 13) hx hb hts hiX11 hown hK hP 0 rfl rfl 2 (by decide) hf22 (fun _ h9 => h9) rfl dX11_init_159 ?_
  refine lv_iload_n hx hb dX11_init_162 rfl (lv_at hl 0 rfl) ?_
  refine va_new (ci := 11) (fs := [.null, .int 0]) (C := RX9) (T := TX9) (N := 2) hx hb hts hiX9 tyX9 tyX9_ok hown hcl16 hinX9 hiniX9 hK hP hD hS hA rfl (fun j hj => by rcases (show j = 0 ∨ j = 1 by omega) with rfl | rfl <;> rfl) (Nat.le_of_ble_eq_true rfl) (Nat.le_of_ble_eq_true rfl) dX11_init_163 (fun q_32 H_32 hP hD hS => ?_)
  have hP : va_P (dC, dI) vwCl (([(t, .inr (13, [.ref q_1, .ref q_3, .ref q_5, .ref q_7, .ref q_9, .ref q_11, .ref q_13, .ref q_15, .ref q_17, .ref q_19, .ref q_21, .ref q_23, .int 0])), (q_3, .inl (g 1, 8, .inr (.inr (.inr (.inr (va_up (va_up (fun _ => none) 0 (some q_26)) 1 (some q_30))))))), (q_5, .inl (g 1, 8, .inr (.inr (.inr (.inr (va_up (fun _ => none) 0 (some q_28)))))))] ++ Y13) ++ [(q_32, .inr (11, [.null, .int 0]))]) H_32 := hP
  have hD : va_D A (([(t, .inr (13, [.ref q_1, .ref q_3, .ref q_5, .ref q_7, .ref q_9, .ref q_11, .ref q_13, .ref q_15, .ref q_17, .ref q_19, .ref q_21, .ref q_23, .int 0])), (q_3, .inl (g 1, 8, .inr (.inr (.inr (.inr (va_up (va_up (fun _ => none) 0 (some q_26)) 1 (some q_30))))))), (q_5, .inl (g 1, 8, .inr (.inr (.inr (.inr (va_up (fun _ => none) 0 (some q_28)))))))] ++ Y13) ++ [(q_32, .inr (11, [.null, .int 0]))]) := hD
  refine W.widen (k := 114) (n := 9359) (by omega) (by omega) ?_
  refine lv_dup hx hb dX11_init_166 rfl ?_
  have hPc := P_r hP
  have hDc := D_r hD
  have hFc : ∀ q, va_A [(q_32, .inr (11, [.null, .int 0]))] H_32.size q → A q := A_all hDc hA hS.1
  refine va_callv (va_runIN (As := []) (rest := [.ref q_32, .int 1, .ref q_5]) ⟨hx, hb, hml, hown, hts⟩ (c_X9_init l dC dI g q_32 H_32.size) ⟨va_cnB 0 hts gX11_init_X9_init_n25 rfl rfl rfl (mnl_1 hG) hiniX9 (by decide +kernel) ⟨Nat.le_of_ble_eq_true rfl, Nat.le_of_ble_eq_true rfl⟩, rfl, himX9_init⟩ ⟨PG_blind, PG_call hK hG hS hPc hDc hFc⟩ rfl rfl hl.1 rfl (lv_room (Nat.le_of_ble_eq_true rfl)) dX11_init_167 ⟨Nat.le_of_ble_eq_true rfl, Nat.le_of_ble_eq_true rfl⟩) hS (fun q _ h => hFc q h) hFc (fun u_32 t_32 J_32 L_32 ht_32 hvm_32 hw_32 hB_32 hz_32 hk_32 hS => ?_)
  obtain ⟨hP1, hD1⟩ := hB_32
  rw [ht_32] at hP1
  obtain ⟨hP, hD⟩ := join_r hP hD hk_32 hFc hP1 hD1
  refine W.widen (k := 115) (n := 9459) (by omega) (by omega) ?_
  refine va_astq hx hb hK hP hD hS 2 1 ((([(t, .inr (13, [.ref q_1, .ref q_3, .ref q_5, .ref q_7, .ref q_9, .ref q_11, .ref q_13, .ref q_15, .ref q_17, .ref q_19, .ref q_21, .ref q_23, .int 0])), (q_3, .inl (g 1, 8, .inr (.inr (.inr (.inr (va_up (va_up (fun _ => none) 0 (some q_26)) 1 (some q_30))))))), (q_5, .inl (g 1, 8, .inr (.inr (.inr (.inr (va_up (fun _ => none) 0 (some q_28)))))))] : va_W) ++ Y13).length + 0) 11 rfl rfl (app_r (W1 := ([(t, .inr (13, [.ref q_1, .ref q_3, .ref q_5, .ref q_7, .ref q_9, .ref q_11, .ref q_13, .ref q_15, .ref q_17, .ref q_19, .ref q_21, .ref q_23, .int 0])), (q_3, .inl (g 1, 8, .inr (.inr (.inr (.inr (va_up (va_up (fun _ => none) 0 (some q_26)) 1 (some q_30))))))), (q_5, .inl (g 1, 8, .inr (.inr (.inr (.inr (va_up (fun _ => none) 0 (some q_28)))))))] : va_W) ++ Y13) (k := 0) rfl) rfl (by unfold vp_in; decide) dX11_init_170 (fun I_33 L_33 hP hD hS => ?_)
  obtain ⟨Y14, hY14⟩ : ∃ Z : va_W, Z = Y13 ++ [(q_32, .inr (11, [.ref (u_32 0), .int 0])), ((u_32 0), .inl (g 0, 100, .inl (fun _ => 0)))] := ⟨_, rfl⟩
  have hP : va_P (dC, dI) vwCl ([(t, .inr (13, [.ref q_1, .ref q_3, .ref q_5, .ref q_7, .ref q_9, .ref q_11, .ref q_13, .ref q_15, .ref q_17, .ref q_19, .ref q_21, .ref q_23, .int 0])), (q_3, .inl (g 1, 8, .inr (.inr (.inr (.inr (va_up (va_up (fun _ => none) 0 (some q_26)) 1 (some q_30))))))), (q_5, .inl (g 1, 8, .inr (.inr (.inr (.inr (va_up (va_up (fun _ => none) 0 (some q_28)) 1 (some q_32)))))))] ++ Y14) I_33 := by rw [hY14]; exact hP
  have hD : va_D A ([(t, .inr (13, [.ref q_1, .ref q_3, .ref q_5, .ref q_7, .ref q_9, .ref q_11, .ref q_13, .ref q_15, .ref q_17, .ref q_19, .ref q_21, .ref q_23, .int 0])), (q_3, .inl (g 1, 8, .inr (.inr (.inr (.inr (va_up (va_up (fun _ => none) 0 (some q_26)) 1 (some q_30))))))), (q_5, .inl (g 1, 8, .inr (.inr (.inr (.inr (va_up (va_up (fun _ => none) 0 (some q_28)) 1 (some q_32)))))))] ++ Y14) := by rw [hY14]; exact hD
  refine lv_iinc (v := 2) (lv' := [(1, .int 2), (0, .ref t)]) hx hb dX11_init_171 hl (k := 0) rfl (by decide) (by decide) rfl (fun ls hl => ?_)
  refine lv_goto (tgt := 139) hx hb dX11_init_174 (by decide) ?_
  refine lv_iload_n hx hb dX11_init_139 rfl (lv_at hl 0 rfl) ?_
  refine lv_bipush (v := 8) hx hb dX11_init_140 (by decide) ?_
  refine lv_icmp_ge (tgt := 177) hx hb dX11_init_142 (by decide) (fun c9 => absurd c9 (by decide)) (fun _ => ?_)
  refine lv_aload_n hx hb dX11_init_145 rfl (lv_at hl 1 rfl) ?_
  refine va_get (D := (dC, dI)) (ci := 13) (v := .ref q_3) (C := RX11) (T := TX11) (N := 13) hx hb hts hiX11 hown hK hP 0 rfl rfl 1 (by decide) hf18 (fun _ h9 => h9) rfl dX11_init_146 ?_
  refine lv_iload_n hx hb dX11_init_149 rfl (lv_at hl 0 rfl) ?_
  refine va_new (ci := 11) (fs := [.null, .int 0]) (C := RX9) (T := TX9) (N := 2) hx hb hts hiX9 tyX9 tyX9_ok hown hcl16 hinX9 hiniX9 hK hP hD hS hA rfl (fun j hj => by rcases (show j = 0 ∨ j = 1 by omega) with rfl | rfl <;> rfl) (Nat.le_of_ble_eq_true rfl) (Nat.le_of_ble_eq_true rfl) dX11_init_150 (fun q_34 H_34 hP hD hS => ?_)
  have hP : va_P (dC, dI) vwCl (([(t, .inr (13, [.ref q_1, .ref q_3, .ref q_5, .ref q_7, .ref q_9, .ref q_11, .ref q_13, .ref q_15, .ref q_17, .ref q_19, .ref q_21, .ref q_23, .int 0])), (q_3, .inl (g 1, 8, .inr (.inr (.inr (.inr (va_up (va_up (fun _ => none) 0 (some q_26)) 1 (some q_30))))))), (q_5, .inl (g 1, 8, .inr (.inr (.inr (.inr (va_up (va_up (fun _ => none) 0 (some q_28)) 1 (some q_32)))))))] ++ Y14) ++ [(q_34, .inr (11, [.null, .int 0]))]) H_34 := hP
  have hD : va_D A (([(t, .inr (13, [.ref q_1, .ref q_3, .ref q_5, .ref q_7, .ref q_9, .ref q_11, .ref q_13, .ref q_15, .ref q_17, .ref q_19, .ref q_21, .ref q_23, .int 0])), (q_3, .inl (g 1, 8, .inr (.inr (.inr (.inr (va_up (va_up (fun _ => none) 0 (some q_26)) 1 (some q_30))))))), (q_5, .inl (g 1, 8, .inr (.inr (.inr (.inr (va_up (va_up (fun _ => none) 0 (some q_28)) 1 (some q_32)))))))] ++ Y14) ++ [(q_34, .inr (11, [.null, .int 0]))]) := hD
  refine W.widen (k := 116) (n := 9461) (by omega) (by omega) ?_
  refine lv_dup hx hb dX11_init_153 rfl ?_
  have hPc := P_r hP
  have hDc := D_r hD
  have hFc : ∀ q, va_A [(q_34, .inr (11, [.null, .int 0]))] H_34.size q → A q := A_all hDc hA hS.1
  refine va_callv (va_runIN (As := []) (rest := [.ref q_34, .int 2, .ref q_3]) ⟨hx, hb, hml, hown, hts⟩ (c_X9_init l dC dI g q_34 H_34.size) ⟨va_cnB 0 hts gX11_init_X9_init_n25 rfl rfl rfl (mnl_1 hG) hiniX9 (by decide +kernel) ⟨Nat.le_of_ble_eq_true rfl, Nat.le_of_ble_eq_true rfl⟩, rfl, himX9_init⟩ ⟨PG_blind, PG_call hK hG hS hPc hDc hFc⟩ rfl rfl hl.1 rfl (lv_room (Nat.le_of_ble_eq_true rfl)) dX11_init_154 ⟨Nat.le_of_ble_eq_true rfl, Nat.le_of_ble_eq_true rfl⟩) hS (fun q _ h => hFc q h) hFc (fun u_34 t_34 J_34 L_34 ht_34 hvm_34 hw_34 hB_34 hz_34 hk_34 hS => ?_)
  obtain ⟨hP1, hD1⟩ := hB_34
  rw [ht_34] at hP1
  obtain ⟨hP, hD⟩ := join_r hP hD hk_34 hFc hP1 hD1
  refine W.widen (k := 117) (n := 9561) (by omega) (by omega) ?_
  refine va_astq hx hb hK hP hD hS 1 1 ((([(t, .inr (13, [.ref q_1, .ref q_3, .ref q_5, .ref q_7, .ref q_9, .ref q_11, .ref q_13, .ref q_15, .ref q_17, .ref q_19, .ref q_21, .ref q_23, .int 0])), (q_3, .inl (g 1, 8, .inr (.inr (.inr (.inr (va_up (va_up (fun _ => none) 0 (some q_26)) 1 (some q_30))))))), (q_5, .inl (g 1, 8, .inr (.inr (.inr (.inr (va_up (va_up (fun _ => none) 0 (some q_28)) 1 (some q_32)))))))] : va_W) ++ Y14).length + 0) 11 rfl rfl (app_r (W1 := ([(t, .inr (13, [.ref q_1, .ref q_3, .ref q_5, .ref q_7, .ref q_9, .ref q_11, .ref q_13, .ref q_15, .ref q_17, .ref q_19, .ref q_21, .ref q_23, .int 0])), (q_3, .inl (g 1, 8, .inr (.inr (.inr (.inr (va_up (va_up (fun _ => none) 0 (some q_26)) 1 (some q_30))))))), (q_5, .inl (g 1, 8, .inr (.inr (.inr (.inr (va_up (va_up (fun _ => none) 0 (some q_28)) 1 (some q_32)))))))] : va_W) ++ Y14) (k := 0) rfl) rfl (by unfold vp_in; decide) dX11_init_157 (fun I_35 L_35 hP hD hS => ?_)
  obtain ⟨Y15, hY15⟩ : ∃ Z : va_W, Z = Y14 ++ [(q_34, .inr (11, [.ref (u_34 0), .int 0])), ((u_34 0), .inl (g 0, 100, .inl (fun _ => 0)))] := ⟨_, rfl⟩
  have hP : va_P (dC, dI) vwCl ([(t, .inr (13, [.ref q_1, .ref q_3, .ref q_5, .ref q_7, .ref q_9, .ref q_11, .ref q_13, .ref q_15, .ref q_17, .ref q_19, .ref q_21, .ref q_23, .int 0])), (q_3, .inl (g 1, 8, .inr (.inr (.inr (.inr (va_up (va_up (va_up (fun _ => none) 0 (some q_26)) 1 (some q_30)) 2 (some q_34))))))), (q_5, .inl (g 1, 8, .inr (.inr (.inr (.inr (va_up (va_up (fun _ => none) 0 (some q_28)) 1 (some q_32)))))))] ++ Y15) I_35 := by rw [hY15]; exact hP
  have hD : va_D A ([(t, .inr (13, [.ref q_1, .ref q_3, .ref q_5, .ref q_7, .ref q_9, .ref q_11, .ref q_13, .ref q_15, .ref q_17, .ref q_19, .ref q_21, .ref q_23, .int 0])), (q_3, .inl (g 1, 8, .inr (.inr (.inr (.inr (va_up (va_up (va_up (fun _ => none) 0 (some q_26)) 1 (some q_30)) 2 (some q_34))))))), (q_5, .inl (g 1, 8, .inr (.inr (.inr (.inr (va_up (va_up (fun _ => none) 0 (some q_28)) 1 (some q_32)))))))] ++ Y15) := by rw [hY15]; exact hD
  refine lv_aload_n hx hb dX11_init_158 rfl (lv_at hl 1 rfl) ?_
  refine va_get (D := (dC, dI)) (ci := 13) (v := .ref q_5) (C := RX11) (T := TX11) (N := 13) hx hb hts hiX11 hown hK hP 0 rfl rfl 2 (by decide) hf22 (fun _ h9 => h9) rfl dX11_init_159 ?_
  refine lv_iload_n hx hb dX11_init_162 rfl (lv_at hl 0 rfl) ?_
  refine va_new (ci := 11) (fs := [.null, .int 0]) (C := RX9) (T := TX9) (N := 2) hx hb hts hiX9 tyX9 tyX9_ok hown hcl16 hinX9 hiniX9 hK hP hD hS hA rfl (fun j hj => by rcases (show j = 0 ∨ j = 1 by omega) with rfl | rfl <;> rfl) (Nat.le_of_ble_eq_true rfl) (Nat.le_of_ble_eq_true rfl) dX11_init_163 (fun q_36 H_36 hP hD hS => ?_)
  have hP : va_P (dC, dI) vwCl (([(t, .inr (13, [.ref q_1, .ref q_3, .ref q_5, .ref q_7, .ref q_9, .ref q_11, .ref q_13, .ref q_15, .ref q_17, .ref q_19, .ref q_21, .ref q_23, .int 0])), (q_3, .inl (g 1, 8, .inr (.inr (.inr (.inr (va_up (va_up (va_up (fun _ => none) 0 (some q_26)) 1 (some q_30)) 2 (some q_34))))))), (q_5, .inl (g 1, 8, .inr (.inr (.inr (.inr (va_up (va_up (fun _ => none) 0 (some q_28)) 1 (some q_32)))))))] ++ Y15) ++ [(q_36, .inr (11, [.null, .int 0]))]) H_36 := hP
  have hD : va_D A (([(t, .inr (13, [.ref q_1, .ref q_3, .ref q_5, .ref q_7, .ref q_9, .ref q_11, .ref q_13, .ref q_15, .ref q_17, .ref q_19, .ref q_21, .ref q_23, .int 0])), (q_3, .inl (g 1, 8, .inr (.inr (.inr (.inr (va_up (va_up (va_up (fun _ => none) 0 (some q_26)) 1 (some q_30)) 2 (some q_34))))))), (q_5, .inl (g 1, 8, .inr (.inr (.inr (.inr (va_up (va_up (fun _ => none) 0 (some q_28)) 1 (some q_32)))))))] ++ Y15) ++ [(q_36, .inr (11, [.null, .int 0]))]) := hD
  refine W.widen (k := 118) (n := 9563) (by omega) (by omega) ?_
  refine lv_dup hx hb dX11_init_166 rfl ?_
  have hPc := P_r hP
  have hDc := D_r hD
  have hFc : ∀ q, va_A [(q_36, .inr (11, [.null, .int 0]))] H_36.size q → A q := A_all hDc hA hS.1
  refine va_callv (va_runIN (As := []) (rest := [.ref q_36, .int 2, .ref q_5]) ⟨hx, hb, hml, hown, hts⟩ (c_X9_init l dC dI g q_36 H_36.size) ⟨va_cnB 0 hts gX11_init_X9_init_n25 rfl rfl rfl (mnl_1 hG) hiniX9 (by decide +kernel) ⟨Nat.le_of_ble_eq_true rfl, Nat.le_of_ble_eq_true rfl⟩, rfl, himX9_init⟩ ⟨PG_blind, PG_call hK hG hS hPc hDc hFc⟩ rfl rfl hl.1 rfl (lv_room (Nat.le_of_ble_eq_true rfl)) dX11_init_167 ⟨Nat.le_of_ble_eq_true rfl, Nat.le_of_ble_eq_true rfl⟩) hS (fun q _ h => hFc q h) hFc (fun u_36 t_36 J_36 L_36 ht_36 hvm_36 hw_36 hB_36 hz_36 hk_36 hS => ?_)
  obtain ⟨hP1, hD1⟩ := hB_36
  rw [ht_36] at hP1
  obtain ⟨hP, hD⟩ := join_r hP hD hk_36 hFc hP1 hD1
  refine W.widen (k := 119) (n := 9663) (by omega) (by omega) ?_
  refine va_astq hx hb hK hP hD hS 2 1 ((([(t, .inr (13, [.ref q_1, .ref q_3, .ref q_5, .ref q_7, .ref q_9, .ref q_11, .ref q_13, .ref q_15, .ref q_17, .ref q_19, .ref q_21, .ref q_23, .int 0])), (q_3, .inl (g 1, 8, .inr (.inr (.inr (.inr (va_up (va_up (va_up (fun _ => none) 0 (some q_26)) 1 (some q_30)) 2 (some q_34))))))), (q_5, .inl (g 1, 8, .inr (.inr (.inr (.inr (va_up (va_up (fun _ => none) 0 (some q_28)) 1 (some q_32)))))))] : va_W) ++ Y15).length + 0) 11 rfl rfl (app_r (W1 := ([(t, .inr (13, [.ref q_1, .ref q_3, .ref q_5, .ref q_7, .ref q_9, .ref q_11, .ref q_13, .ref q_15, .ref q_17, .ref q_19, .ref q_21, .ref q_23, .int 0])), (q_3, .inl (g 1, 8, .inr (.inr (.inr (.inr (va_up (va_up (va_up (fun _ => none) 0 (some q_26)) 1 (some q_30)) 2 (some q_34))))))), (q_5, .inl (g 1, 8, .inr (.inr (.inr (.inr (va_up (va_up (fun _ => none) 0 (some q_28)) 1 (some q_32)))))))] : va_W) ++ Y15) (k := 0) rfl) rfl (by unfold vp_in; decide) dX11_init_170 (fun I_37 L_37 hP hD hS => ?_)
  obtain ⟨Y16, hY16⟩ : ∃ Z : va_W, Z = Y15 ++ [(q_36, .inr (11, [.ref (u_36 0), .int 0])), ((u_36 0), .inl (g 0, 100, .inl (fun _ => 0)))] := ⟨_, rfl⟩
  have hP : va_P (dC, dI) vwCl ([(t, .inr (13, [.ref q_1, .ref q_3, .ref q_5, .ref q_7, .ref q_9, .ref q_11, .ref q_13, .ref q_15, .ref q_17, .ref q_19, .ref q_21, .ref q_23, .int 0])), (q_3, .inl (g 1, 8, .inr (.inr (.inr (.inr (va_up (va_up (va_up (fun _ => none) 0 (some q_26)) 1 (some q_30)) 2 (some q_34))))))), (q_5, .inl (g 1, 8, .inr (.inr (.inr (.inr (va_up (va_up (va_up (fun _ => none) 0 (some q_28)) 1 (some q_32)) 2 (some q_36)))))))] ++ Y16) I_37 := by rw [hY16]; exact hP
  have hD : va_D A ([(t, .inr (13, [.ref q_1, .ref q_3, .ref q_5, .ref q_7, .ref q_9, .ref q_11, .ref q_13, .ref q_15, .ref q_17, .ref q_19, .ref q_21, .ref q_23, .int 0])), (q_3, .inl (g 1, 8, .inr (.inr (.inr (.inr (va_up (va_up (va_up (fun _ => none) 0 (some q_26)) 1 (some q_30)) 2 (some q_34))))))), (q_5, .inl (g 1, 8, .inr (.inr (.inr (.inr (va_up (va_up (va_up (fun _ => none) 0 (some q_28)) 1 (some q_32)) 2 (some q_36)))))))] ++ Y16) := by rw [hY16]; exact hD
  refine lv_iinc (v := 3) (lv' := [(1, .int 3), (0, .ref t)]) hx hb dX11_init_171 hl (k := 0) rfl (by decide) (by decide) rfl (fun ls hl => ?_)
  refine lv_goto (tgt := 139) hx hb dX11_init_174 (by decide) ?_
  refine lv_iload_n hx hb dX11_init_139 rfl (lv_at hl 0 rfl) ?_
  refine lv_bipush (v := 8) hx hb dX11_init_140 (by decide) ?_
  refine lv_icmp_ge (tgt := 177) hx hb dX11_init_142 (by decide) (fun c9 => absurd c9 (by decide)) (fun _ => ?_)
  refine lv_aload_n hx hb dX11_init_145 rfl (lv_at hl 1 rfl) ?_
  refine va_get (D := (dC, dI)) (ci := 13) (v := .ref q_3) (C := RX11) (T := TX11) (N := 13) hx hb hts hiX11 hown hK hP 0 rfl rfl 1 (by decide) hf18 (fun _ h9 => h9) rfl dX11_init_146 ?_
  refine lv_iload_n hx hb dX11_init_149 rfl (lv_at hl 0 rfl) ?_
  refine va_new (ci := 11) (fs := [.null, .int 0]) (C := RX9) (T := TX9) (N := 2) hx hb hts hiX9 tyX9 tyX9_ok hown hcl16 hinX9 hiniX9 hK hP hD hS hA rfl (fun j hj => by rcases (show j = 0 ∨ j = 1 by omega) with rfl | rfl <;> rfl) (Nat.le_of_ble_eq_true rfl) (Nat.le_of_ble_eq_true rfl) dX11_init_150 (fun q_38 H_38 hP hD hS => ?_)
  have hP : va_P (dC, dI) vwCl (([(t, .inr (13, [.ref q_1, .ref q_3, .ref q_5, .ref q_7, .ref q_9, .ref q_11, .ref q_13, .ref q_15, .ref q_17, .ref q_19, .ref q_21, .ref q_23, .int 0])), (q_3, .inl (g 1, 8, .inr (.inr (.inr (.inr (va_up (va_up (va_up (fun _ => none) 0 (some q_26)) 1 (some q_30)) 2 (some q_34))))))), (q_5, .inl (g 1, 8, .inr (.inr (.inr (.inr (va_up (va_up (va_up (fun _ => none) 0 (some q_28)) 1 (some q_32)) 2 (some q_36)))))))] ++ Y16) ++ [(q_38, .inr (11, [.null, .int 0]))]) H_38 := hP
  have hD : va_D A (([(t, .inr (13, [.ref q_1, .ref q_3, .ref q_5, .ref q_7, .ref q_9, .ref q_11, .ref q_13, .ref q_15, .ref q_17, .ref q_19, .ref q_21, .ref q_23, .int 0])), (q_3, .inl (g 1, 8, .inr (.inr (.inr (.inr (va_up (va_up (va_up (fun _ => none) 0 (some q_26)) 1 (some q_30)) 2 (some q_34))))))), (q_5, .inl (g 1, 8, .inr (.inr (.inr (.inr (va_up (va_up (va_up (fun _ => none) 0 (some q_28)) 1 (some q_32)) 2 (some q_36)))))))] ++ Y16) ++ [(q_38, .inr (11, [.null, .int 0]))]) := hD
  refine W.widen (k := 120) (n := 9665) (by omega) (by omega) ?_
  refine lv_dup hx hb dX11_init_153 rfl ?_
  have hPc := P_r hP
  have hDc := D_r hD
  have hFc : ∀ q, va_A [(q_38, .inr (11, [.null, .int 0]))] H_38.size q → A q := A_all hDc hA hS.1
  refine va_callv (va_runIN (As := []) (rest := [.ref q_38, .int 3, .ref q_3]) ⟨hx, hb, hml, hown, hts⟩ (c_X9_init l dC dI g q_38 H_38.size) ⟨va_cnB 0 hts gX11_init_X9_init_n25 rfl rfl rfl (mnl_1 hG) hiniX9 (by decide +kernel) ⟨Nat.le_of_ble_eq_true rfl, Nat.le_of_ble_eq_true rfl⟩, rfl, himX9_init⟩ ⟨PG_blind, PG_call hK hG hS hPc hDc hFc⟩ rfl rfl hl.1 rfl (lv_room (Nat.le_of_ble_eq_true rfl)) dX11_init_154 ⟨Nat.le_of_ble_eq_true rfl, Nat.le_of_ble_eq_true rfl⟩) hS (fun q _ h => hFc q h) hFc (fun u_38 t_38 J_38 L_38 ht_38 hvm_38 hw_38 hB_38 hz_38 hk_38 hS => ?_)
  obtain ⟨hP1, hD1⟩ := hB_38
  rw [ht_38] at hP1
  obtain ⟨hP, hD⟩ := join_r hP hD hk_38 hFc hP1 hD1
  refine W.widen (k := 121) (n := 9765) (by omega) (by omega) ?_
  refine va_astq hx hb hK hP hD hS 1 1 ((([(t, .inr (13, [.ref q_1, .ref q_3, .ref q_5, .ref q_7, .ref q_9, .ref q_11, .ref q_13, .ref q_15, .ref q_17, .ref q_19, .ref q_21, .ref q_23, .int 0])), (q_3, .inl (g 1, 8, .inr (.inr (.inr (.inr (va_up (va_up (va_up (fun _ => none) 0 (some q_26)) 1 (some q_30)) 2 (some q_34))))))), (q_5, .inl (g 1, 8, .inr (.inr (.inr (.inr (va_up (va_up (va_up (fun _ => none) 0 (some q_28)) 1 (some q_32)) 2 (some q_36)))))))] : va_W) ++ Y16).length + 0) 11 rfl rfl (app_r (W1 := ([(t, .inr (13, [.ref q_1, .ref q_3, .ref q_5, .ref q_7, .ref q_9, .ref q_11, .ref q_13, .ref q_15, .ref q_17, .ref q_19, .ref q_21, .ref q_23, .int 0])), (q_3, .inl (g 1, 8, .inr (.inr (.inr (.inr (va_up (va_up (va_up (fun _ => none) 0 (some q_26)) 1 (some q_30)) 2 (some q_34))))))), (q_5, .inl (g 1, 8, .inr (.inr (.inr (.inr (va_up (va_up (va_up (fun _ => none) 0 (some q_28)) 1 (some q_32)) 2 (some q_36)))))))] : va_W) ++ Y16) (k := 0) rfl) rfl (by unfold vp_in; decide) dX11_init_157 (fun I_39 L_39 hP hD hS => ?_)
  obtain ⟨Y17, hY17⟩ : ∃ Z : va_W, Z = Y16 ++ [(q_38, .inr (11, [.ref (u_38 0), .int 0])), ((u_38 0), .inl (g 0, 100, .inl (fun _ => 0)))] := ⟨_, rfl⟩
  have hP : va_P (dC, dI) vwCl ([(t, .inr (13, [.ref q_1, .ref q_3, .ref q_5, .ref q_7, .ref q_9, .ref q_11, .ref q_13, .ref q_15, .ref q_17, .ref q_19, .ref q_21, .ref q_23, .int 0])), (q_3, .inl (g 1, 8, .inr (.inr (.inr (.inr (va_up (va_up (va_up (va_up (fun _ => none) 0 (some q_26)) 1 (some q_30)) 2 (some q_34)) 3 (some q_38))))))), (q_5, .inl (g 1, 8, .inr (.inr (.inr (.inr (va_up (va_up (va_up (fun _ => none) 0 (some q_28)) 1 (some q_32)) 2 (some q_36)))))))] ++ Y17) I_39 := by rw [hY17]; exact hP
  have hD : va_D A ([(t, .inr (13, [.ref q_1, .ref q_3, .ref q_5, .ref q_7, .ref q_9, .ref q_11, .ref q_13, .ref q_15, .ref q_17, .ref q_19, .ref q_21, .ref q_23, .int 0])), (q_3, .inl (g 1, 8, .inr (.inr (.inr (.inr (va_up (va_up (va_up (va_up (fun _ => none) 0 (some q_26)) 1 (some q_30)) 2 (some q_34)) 3 (some q_38))))))), (q_5, .inl (g 1, 8, .inr (.inr (.inr (.inr (va_up (va_up (va_up (fun _ => none) 0 (some q_28)) 1 (some q_32)) 2 (some q_36)))))))] ++ Y17) := by rw [hY17]; exact hD
  refine lv_aload_n hx hb dX11_init_158 rfl (lv_at hl 1 rfl) ?_
  refine va_get (D := (dC, dI)) (ci := 13) (v := .ref q_5) (C := RX11) (T := TX11) (N := 13) hx hb hts hiX11 hown hK hP 0 rfl rfl 2 (by decide) hf22 (fun _ h9 => h9) rfl dX11_init_159 ?_
  refine lv_iload_n hx hb dX11_init_162 rfl (lv_at hl 0 rfl) ?_
  refine va_new (ci := 11) (fs := [.null, .int 0]) (C := RX9) (T := TX9) (N := 2) hx hb hts hiX9 tyX9 tyX9_ok hown hcl16 hinX9 hiniX9 hK hP hD hS hA rfl (fun j hj => by rcases (show j = 0 ∨ j = 1 by omega) with rfl | rfl <;> rfl) (Nat.le_of_ble_eq_true rfl) (Nat.le_of_ble_eq_true rfl) dX11_init_163 (fun q_40 H_40 hP hD hS => ?_)
  have hP : va_P (dC, dI) vwCl (([(t, .inr (13, [.ref q_1, .ref q_3, .ref q_5, .ref q_7, .ref q_9, .ref q_11, .ref q_13, .ref q_15, .ref q_17, .ref q_19, .ref q_21, .ref q_23, .int 0])), (q_3, .inl (g 1, 8, .inr (.inr (.inr (.inr (va_up (va_up (va_up (va_up (fun _ => none) 0 (some q_26)) 1 (some q_30)) 2 (some q_34)) 3 (some q_38))))))), (q_5, .inl (g 1, 8, .inr (.inr (.inr (.inr (va_up (va_up (va_up (fun _ => none) 0 (some q_28)) 1 (some q_32)) 2 (some q_36)))))))] ++ Y17) ++ [(q_40, .inr (11, [.null, .int 0]))]) H_40 := hP
  have hD : va_D A (([(t, .inr (13, [.ref q_1, .ref q_3, .ref q_5, .ref q_7, .ref q_9, .ref q_11, .ref q_13, .ref q_15, .ref q_17, .ref q_19, .ref q_21, .ref q_23, .int 0])), (q_3, .inl (g 1, 8, .inr (.inr (.inr (.inr (va_up (va_up (va_up (va_up (fun _ => none) 0 (some q_26)) 1 (some q_30)) 2 (some q_34)) 3 (some q_38))))))), (q_5, .inl (g 1, 8, .inr (.inr (.inr (.inr (va_up (va_up (va_up (fun _ => none) 0 (some q_28)) 1 (some q_32)) 2 (some q_36)))))))] ++ Y17) ++ [(q_40, .inr (11, [.null, .int 0]))]) := hD
  refine W.widen (k := 122) (n := 9767) (by omega) (by omega) ?_
  refine lv_dup hx hb dX11_init_166 rfl ?_
  have hPc := P_r hP
  have hDc := D_r hD
  have hFc : ∀ q, va_A [(q_40, .inr (11, [.null, .int 0]))] H_40.size q → A q := A_all hDc hA hS.1
  refine va_callv (va_runIN (As := []) (rest := [.ref q_40, .int 3, .ref q_5]) ⟨hx, hb, hml, hown, hts⟩ (c_X9_init l dC dI g q_40 H_40.size) ⟨va_cnB 0 hts gX11_init_X9_init_n25 rfl rfl rfl (mnl_1 hG) hiniX9 (by decide +kernel) ⟨Nat.le_of_ble_eq_true rfl, Nat.le_of_ble_eq_true rfl⟩, rfl, himX9_init⟩ ⟨PG_blind, PG_call hK hG hS hPc hDc hFc⟩ rfl rfl hl.1 rfl (lv_room (Nat.le_of_ble_eq_true rfl)) dX11_init_167 ⟨Nat.le_of_ble_eq_true rfl, Nat.le_of_ble_eq_true rfl⟩) hS (fun q _ h => hFc q h) hFc (fun u_40 t_40 J_40 L_40 ht_40 hvm_40 hw_40 hB_40 hz_40 hk_40 hS => ?_)
  obtain ⟨hP1, hD1⟩ := hB_40
  rw [ht_40] at hP1
  obtain ⟨hP, hD⟩ := join_r hP hD hk_40 hFc hP1 hD1
  refine W.widen (k := 123) (n := 9867) (by omega) (by omega) ?_
  refine va_astq hx hb hK hP hD hS 2 1 ((([(t, .inr (13, [.ref q_1, .ref q_3, .ref q_5, .ref q_7, .ref q_9, .ref q_11, .ref q_13, .ref q_15, .ref q_17, .ref q_19, .ref q_21, .ref q_23, .int 0])), (q_3, .inl (g 1, 8, .inr (.inr (.inr (.inr (va_up (va_up (va_up (va_up (fun _ => none) 0 (some q_26)) 1 (some q_30)) 2 (some q_34)) 3 (some q_38))))))), (q_5, .inl (g 1, 8, .inr (.inr (.inr (.inr (va_up (va_up (va_up (fun _ => none) 0 (some q_28)) 1 (some q_32)) 2 (some q_36)))))))] : va_W) ++ Y17).length + 0) 11 rfl rfl (app_r (W1 := ([(t, .inr (13, [.ref q_1, .ref q_3, .ref q_5, .ref q_7, .ref q_9, .ref q_11, .ref q_13, .ref q_15, .ref q_17, .ref q_19, .ref q_21, .ref q_23, .int 0])), (q_3, .inl (g 1, 8, .inr (.inr (.inr (.inr (va_up (va_up (va_up (va_up (fun _ => none) 0 (some q_26)) 1 (some q_30)) 2 (some q_34)) 3 (some q_38))))))), (q_5, .inl (g 1, 8, .inr (.inr (.inr (.inr (va_up (va_up (va_up (fun _ => none) 0 (some q_28)) 1 (some q_32)) 2 (some q_36)))))))] : va_W) ++ Y17) (k := 0) rfl) rfl (by unfold vp_in; decide) dX11_init_170 (fun I_41 L_41 hP hD hS => ?_)
  obtain ⟨Y18, hY18⟩ : ∃ Z : va_W, Z = Y17 ++ [(q_40, .inr (11, [.ref (u_40 0), .int 0])), ((u_40 0), .inl (g 0, 100, .inl (fun _ => 0)))] := ⟨_, rfl⟩
  have hP : va_P (dC, dI) vwCl ([(t, .inr (13, [.ref q_1, .ref q_3, .ref q_5, .ref q_7, .ref q_9, .ref q_11, .ref q_13, .ref q_15, .ref q_17, .ref q_19, .ref q_21, .ref q_23, .int 0])), (q_3, .inl (g 1, 8, .inr (.inr (.inr (.inr (va_up (va_up (va_up (va_up (fun _ => none) 0 (some q_26)) 1 (some q_30)) 2 (some q_34)) 3 (some q_38))))))), (q_5, .inl (g 1, 8, .inr (.inr (.inr (.inr (va_up (va_up (va_up (va_up (fun _ => none) 0 (some q_28)) 1 (some q_32)) 2 (some q_36)) 3 (some q_40)))))))] ++ Y18) I_41 := by rw [hY18]; exact hP
  have hD : va_D A ([(t, .inr (13, [.ref q_1, .ref q_3, .ref q_5, .ref q_7, .ref q_9, .ref q_11, .ref q_13, .ref q_15, .ref q_17, .ref q_19, .ref q_21, .ref q_23, .int 0])), (q_3, .inl (g 1, 8, .inr (.inr (.inr (.inr (va_up (va_up (va_up (va_up (fun _ => none) 0 (some q_26)) 1 (some q_30)) 2 (some q_34)) 3 (some q_38))))))), (q_5, .inl (g 1, 8, .inr (.inr (.inr (.inr (va_up (va_up (va_up (va_up (fun _ => none) 0 (some q_28)) 1 (some q_32)) 2 (some q_36)) 3 (some q_40)))))))] ++ Y18) := by rw [hY18]; exact hD
  refine lv_iinc (v := 4) (lv' := [(1, .int 4), (0, .ref t)]) hx hb dX11_init_171 hl (k := 0) rfl (by decide) (by decide) rfl (fun ls hl => ?_)
  refine lv_goto (tgt := 139) hx hb dX11_init_174 (by decide) ?_
  refine lv_iload_n hx hb dX11_init_139 rfl (lv_at hl 0 rfl) ?_
  refine lv_bipush (v := 8) hx hb dX11_init_140 (by decide) ?_
  refine lv_icmp_ge (tgt := 177) hx hb dX11_init_142 (by decide) (fun c9 => absurd c9 (by decide)) (fun _ => ?_)
  refine lv_aload_n hx hb dX11_init_145 rfl (lv_at hl 1 rfl) ?_
  refine va_get (D := (dC, dI)) (ci := 13) (v := .ref q_3) (C := RX11) (T := TX11) (N := 13) hx hb hts hiX11 hown hK hP 0 rfl rfl 1 (by decide) hf18 (fun _ h9 => h9) rfl dX11_init_146 ?_
  refine lv_iload_n hx hb dX11_init_149 rfl (lv_at hl 0 rfl) ?_
  refine va_new (ci := 11) (fs := [.null, .int 0]) (C := RX9) (T := TX9) (N := 2) hx hb hts hiX9 tyX9 tyX9_ok hown hcl16 hinX9 hiniX9 hK hP hD hS hA rfl (fun j hj => by rcases (show j = 0 ∨ j = 1 by omega) with rfl | rfl <;> rfl) (Nat.le_of_ble_eq_true rfl) (Nat.le_of_ble_eq_true rfl) dX11_init_150 (fun q_42 H_42 hP hD hS => ?_)
  have hP : va_P (dC, dI) vwCl (([(t, .inr (13, [.ref q_1, .ref q_3, .ref q_5, .ref q_7, .ref q_9, .ref q_11, .ref q_13, .ref q_15, .ref q_17, .ref q_19, .ref q_21, .ref q_23, .int 0])), (q_3, .inl (g 1, 8, .inr (.inr (.inr (.inr (va_up (va_up (va_up (va_up (fun _ => none) 0 (some q_26)) 1 (some q_30)) 2 (some q_34)) 3 (some q_38))))))), (q_5, .inl (g 1, 8, .inr (.inr (.inr (.inr (va_up (va_up (va_up (va_up (fun _ => none) 0 (some q_28)) 1 (some q_32)) 2 (some q_36)) 3 (some q_40)))))))] ++ Y18) ++ [(q_42, .inr (11, [.null, .int 0]))]) H_42 := hP
  have hD : va_D A (([(t, .inr (13, [.ref q_1, .ref q_3, .ref q_5, .ref q_7, .ref q_9, .ref q_11, .ref q_13, .ref q_15, .ref q_17, .ref q_19, .ref q_21, .ref q_23, .int 0])), (q_3, .inl (g 1, 8, .inr (.inr (.inr (.inr (va_up (va_up (va_up (va_up (fun _ => none) 0 (some q_26)) 1 (some q_30)) 2 (some q_34)) 3 (some q_38))))))), (q_5, .inl (g 1, 8, .inr (.inr (.inr (.inr (va_up (va_up (va_up (va_up (fun _ => none) 0 (some q_28)) 1 (some q_32)) 2 (some q_36)) 3 (some q_40)))))))] ++ Y18) ++ [(q_42, .inr (11, [.null, .int 0]))]) := hD
  refine W.widen (k := 124) (n := 9869) (by omega) (by omega) ?_
  refine lv_dup hx hb dX11_init_153 rfl ?_
  have hPc := P_r hP
  have hDc := D_r hD
  have hFc : ∀ q, va_A [(q_42, .inr (11, [.null, .int 0]))] H_42.size q → A q := A_all hDc hA hS.1
  refine va_callv (va_runIN (As := []) (rest := [.ref q_42, .int 4, .ref q_3]) ⟨hx, hb, hml, hown, hts⟩ (c_X9_init l dC dI g q_42 H_42.size) ⟨va_cnB 0 hts gX11_init_X9_init_n25 rfl rfl rfl (mnl_1 hG) hiniX9 (by decide +kernel) ⟨Nat.le_of_ble_eq_true rfl, Nat.le_of_ble_eq_true rfl⟩, rfl, himX9_init⟩ ⟨PG_blind, PG_call hK hG hS hPc hDc hFc⟩ rfl rfl hl.1 rfl (lv_room (Nat.le_of_ble_eq_true rfl)) dX11_init_154 ⟨Nat.le_of_ble_eq_true rfl, Nat.le_of_ble_eq_true rfl⟩) hS (fun q _ h => hFc q h) hFc (fun u_42 t_42 J_42 L_42 ht_42 hvm_42 hw_42 hB_42 hz_42 hk_42 hS => ?_)
  obtain ⟨hP1, hD1⟩ := hB_42
  rw [ht_42] at hP1
  obtain ⟨hP, hD⟩ := join_r hP hD hk_42 hFc hP1 hD1
  refine W.widen (k := 125) (n := 9969) (by omega) (by omega) ?_
  refine va_astq hx hb hK hP hD hS 1 1 ((([(t, .inr (13, [.ref q_1, .ref q_3, .ref q_5, .ref q_7, .ref q_9, .ref q_11, .ref q_13, .ref q_15, .ref q_17, .ref q_19, .ref q_21, .ref q_23, .int 0])), (q_3, .inl (g 1, 8, .inr (.inr (.inr (.inr (va_up (va_up (va_up (va_up (fun _ => none) 0 (some q_26)) 1 (some q_30)) 2 (some q_34)) 3 (some q_38))))))), (q_5, .inl (g 1, 8, .inr (.inr (.inr (.inr (va_up (va_up (va_up (va_up (fun _ => none) 0 (some q_28)) 1 (some q_32)) 2 (some q_36)) 3 (some q_40)))))))] : va_W) ++ Y18).length + 0) 11 rfl rfl (app_r (W1 := ([(t, .inr (13, [.ref q_1, .ref q_3, .ref q_5, .ref q_7, .ref q_9, .ref q_11, .ref q_13, .ref q_15, .ref q_17, .ref q_19, .ref q_21, .ref q_23, .int 0])), (q_3, .inl (g 1, 8, .inr (.inr (.inr (.inr (va_up (va_up (va_up (va_up (fun _ => none) 0 (some q_26)) 1 (some q_30)) 2 (some q_34)) 3 (some q_38))))))), (q_5, .inl (g 1, 8, .inr (.inr (.inr (.inr (va_up (va_up (va_up (va_up (fun _ => none) 0 (some q_28)) 1 (some q_32)) 2 (some q_36)) 3 (some q_40)))))))] : va_W) ++ Y18) (k := 0) rfl) rfl (by unfold vp_in; decide) dX11_init_157 (fun I_43 L_43 hP hD hS => ?_)
  obtain ⟨Y19, hY19⟩ : ∃ Z : va_W, Z = Y18 ++ [(q_42, .inr (11, [.ref (u_42 0), .int 0])), ((u_42 0), .inl (g 0, 100, .inl (fun _ => 0)))] := ⟨_, rfl⟩
  have hP : va_P (dC, dI) vwCl ([(t, .inr (13, [.ref q_1, .ref q_3, .ref q_5, .ref q_7, .ref q_9, .ref q_11, .ref q_13, .ref q_15, .ref q_17, .ref q_19, .ref q_21, .ref q_23, .int 0])), (q_3, .inl (g 1, 8, .inr (.inr (.inr (.inr (va_up (va_up (va_up (va_up (va_up (fun _ => none) 0 (some q_26)) 1 (some q_30)) 2 (some q_34)) 3 (some q_38)) 4 (some q_42))))))), (q_5, .inl (g 1, 8, .inr (.inr (.inr (.inr (va_up (va_up (va_up (va_up (fun _ => none) 0 (some q_28)) 1 (some q_32)) 2 (some q_36)) 3 (some q_40)))))))] ++ Y19) I_43 := by rw [hY19]; exact hP
  have hD : va_D A ([(t, .inr (13, [.ref q_1, .ref q_3, .ref q_5, .ref q_7, .ref q_9, .ref q_11, .ref q_13, .ref q_15, .ref q_17, .ref q_19, .ref q_21, .ref q_23, .int 0])), (q_3, .inl (g 1, 8, .inr (.inr (.inr (.inr (va_up (va_up (va_up (va_up (va_up (fun _ => none) 0 (some q_26)) 1 (some q_30)) 2 (some q_34)) 3 (some q_38)) 4 (some q_42))))))), (q_5, .inl (g 1, 8, .inr (.inr (.inr (.inr (va_up (va_up (va_up (va_up (fun _ => none) 0 (some q_28)) 1 (some q_32)) 2 (some q_36)) 3 (some q_40)))))))] ++ Y19) := by rw [hY19]; exact hD
  refine lv_aload_n hx hb dX11_init_158 rfl (lv_at hl 1 rfl) ?_
  refine va_get (D := (dC, dI)) (ci := 13) (v := .ref q_5) (C := RX11) (T := TX11) (N := 13) hx hb hts hiX11 hown hK hP 0 rfl rfl 2 (by decide) hf22 (fun _ h9 => h9) rfl dX11_init_159 ?_
  refine lv_iload_n hx hb dX11_init_162 rfl (lv_at hl 0 rfl) ?_
  refine va_new (ci := 11) (fs := [.null, .int 0]) (C := RX9) (T := TX9) (N := 2) hx hb hts hiX9 tyX9 tyX9_ok hown hcl16 hinX9 hiniX9 hK hP hD hS hA rfl (fun j hj => by rcases (show j = 0 ∨ j = 1 by omega) with rfl | rfl <;> rfl) (Nat.le_of_ble_eq_true rfl) (Nat.le_of_ble_eq_true rfl) dX11_init_163 (fun q_44 H_44 hP hD hS => ?_)
  have hP : va_P (dC, dI) vwCl (([(t, .inr (13, [.ref q_1, .ref q_3, .ref q_5, .ref q_7, .ref q_9, .ref q_11, .ref q_13, .ref q_15, .ref q_17, .ref q_19, .ref q_21, .ref q_23, .int 0])), (q_3, .inl (g 1, 8, .inr (.inr (.inr (.inr (va_up (va_up (va_up (va_up (va_up (fun _ => none) 0 (some q_26)) 1 (some q_30)) 2 (some q_34)) 3 (some q_38)) 4 (some q_42))))))), (q_5, .inl (g 1, 8, .inr (.inr (.inr (.inr (va_up (va_up (va_up (va_up (fun _ => none) 0 (some q_28)) 1 (some q_32)) 2 (some q_36)) 3 (some q_40)))))))] ++ Y19) ++ [(q_44, .inr (11, [.null, .int 0]))]) H_44 := hP
  have hD : va_D A (([(t, .inr (13, [.ref q_1, .ref q_3, .ref q_5, .ref q_7, .ref q_9, .ref q_11, .ref q_13, .ref q_15, .ref q_17, .ref q_19, .ref q_21, .ref q_23, .int 0])), (q_3, .inl (g 1, 8, .inr (.inr (.inr (.inr (va_up (va_up (va_up (va_up (va_up (fun _ => none) 0 (some q_26)) 1 (some q_30)) 2 (some q_34)) 3 (some q_38)) 4 (some q_42))))))), (q_5, .inl (g 1, 8, .inr (.inr (.inr (.inr (va_up (va_up (va_up (va_up (fun _ => none) 0 (some q_28)) 1 (some q_32)) 2 (some q_36)) 3 (some q_40)))))))] ++ Y19) ++ [(q_44, .inr (11, [.null, .int 0]))]) := hD
  refine W.widen (k := 126) (n := 9971) (by omega) (by omega) ?_
  refine lv_dup hx hb dX11_init_166 rfl ?_
  have hPc := P_r hP
  have hDc := D_r hD
  have hFc : ∀ q, va_A [(q_44, .inr (11, [.null, .int 0]))] H_44.size q → A q := A_all hDc hA hS.1
  refine va_callv (va_runIN (As := []) (rest := [.ref q_44, .int 4, .ref q_5]) ⟨hx, hb, hml, hown, hts⟩ (c_X9_init l dC dI g q_44 H_44.size) ⟨va_cnB 0 hts gX11_init_X9_init_n25 rfl rfl rfl (mnl_1 hG) hiniX9 (by decide +kernel) ⟨Nat.le_of_ble_eq_true rfl, Nat.le_of_ble_eq_true rfl⟩, rfl, himX9_init⟩ ⟨PG_blind, PG_call hK hG hS hPc hDc hFc⟩ rfl rfl hl.1 rfl (lv_room (Nat.le_of_ble_eq_true rfl)) dX11_init_167 ⟨Nat.le_of_ble_eq_true rfl, Nat.le_of_ble_eq_true rfl⟩) hS (fun q _ h => hFc q h) hFc (fun u_44 t_44 J_44 L_44 ht_44 hvm_44 hw_44 hB_44 hz_44 hk_44 hS => ?_)
  obtain ⟨hP1, hD1⟩ := hB_44
  rw [ht_44] at hP1
  obtain ⟨hP, hD⟩ := join_r hP hD hk_44 hFc hP1 hD1
  refine W.widen (k := 127) (n := 10071) (by omega) (by omega) ?_
  refine va_astq hx hb hK hP hD hS 2 1 ((([(t, .inr (13, [.ref q_1, .ref q_3, .ref q_5, .ref q_7, .ref q_9, .ref q_11, .ref q_13, .ref q_15, .ref q_17, .ref q_19, .ref q_21, .ref q_23, .int 0])), (q_3, .inl (g 1, 8, .inr (.inr (.inr (.inr (va_up (va_up (va_up (va_up (va_up (fun _ => none) 0 (some q_26)) 1 (some q_30)) 2 (some q_34)) 3 (some q_38)) 4 (some q_42))))))), (q_5, .inl (g 1, 8, .inr (.inr (.inr (.inr (va_up (va_up (va_up (va_up (fun _ => none) 0 (some q_28)) 1 (some q_32)) 2 (some q_36)) 3 (some q_40)))))))] : va_W) ++ Y19).length + 0) 11 rfl rfl (app_r (W1 := ([(t, .inr (13, [.ref q_1, .ref q_3, .ref q_5, .ref q_7, .ref q_9, .ref q_11, .ref q_13, .ref q_15, .ref q_17, .ref q_19, .ref q_21, .ref q_23, .int 0])), (q_3, .inl (g 1, 8, .inr (.inr (.inr (.inr (va_up (va_up (va_up (va_up (va_up (fun _ => none) 0 (some q_26)) 1 (some q_30)) 2 (some q_34)) 3 (some q_38)) 4 (some q_42))))))), (q_5, .inl (g 1, 8, .inr (.inr (.inr (.inr (va_up (va_up (va_up (va_up (fun _ => none) 0 (some q_28)) 1 (some q_32)) 2 (some q_36)) 3 (some q_40)))))))] : va_W) ++ Y19) (k := 0) rfl) rfl (by unfold vp_in; decide) dX11_init_170 (fun I_45 L_45 hP hD hS => ?_)
  obtain ⟨Y20, hY20⟩ : ∃ Z : va_W, Z = Y19 ++ [(q_44, .inr (11, [.ref (u_44 0), .int 0])), ((u_44 0), .inl (g 0, 100, .inl (fun _ => 0)))] := ⟨_, rfl⟩
  have hP : va_P (dC, dI) vwCl ([(t, .inr (13, [.ref q_1, .ref q_3, .ref q_5, .ref q_7, .ref q_9, .ref q_11, .ref q_13, .ref q_15, .ref q_17, .ref q_19, .ref q_21, .ref q_23, .int 0])), (q_3, .inl (g 1, 8, .inr (.inr (.inr (.inr (va_up (va_up (va_up (va_up (va_up (fun _ => none) 0 (some q_26)) 1 (some q_30)) 2 (some q_34)) 3 (some q_38)) 4 (some q_42))))))), (q_5, .inl (g 1, 8, .inr (.inr (.inr (.inr (va_up (va_up (va_up (va_up (va_up (fun _ => none) 0 (some q_28)) 1 (some q_32)) 2 (some q_36)) 3 (some q_40)) 4 (some q_44)))))))] ++ Y20) I_45 := by rw [hY20]; exact hP
  have hD : va_D A ([(t, .inr (13, [.ref q_1, .ref q_3, .ref q_5, .ref q_7, .ref q_9, .ref q_11, .ref q_13, .ref q_15, .ref q_17, .ref q_19, .ref q_21, .ref q_23, .int 0])), (q_3, .inl (g 1, 8, .inr (.inr (.inr (.inr (va_up (va_up (va_up (va_up (va_up (fun _ => none) 0 (some q_26)) 1 (some q_30)) 2 (some q_34)) 3 (some q_38)) 4 (some q_42))))))), (q_5, .inl (g 1, 8, .inr (.inr (.inr (.inr (va_up (va_up (va_up (va_up (va_up (fun _ => none) 0 (some q_28)) 1 (some q_32)) 2 (some q_36)) 3 (some q_40)) 4 (some q_44)))))))] ++ Y20) := by rw [hY20]; exact hD
  refine lv_iinc (v := 5) (lv' := [(1, .int 5), (0, .ref t)]) hx hb dX11_init_171 hl (k := 0) rfl (by decide) (by decide) rfl (fun ls hl => ?_)
  refine lv_goto (tgt := 139) hx hb dX11_init_174 (by decide) ?_
  refine lv_iload_n hx hb dX11_init_139 rfl (lv_at hl 0 rfl) ?_
  refine lv_bipush (v := 8) hx hb dX11_init_140 (by decide) ?_
  refine lv_icmp_ge (tgt := 177) hx hb dX11_init_142 (by decide) (fun c9 => absurd c9 (by decide)) (fun _ => ?_)
  refine lv_aload_n hx hb dX11_init_145 rfl (lv_at hl 1 rfl) ?_
  refine va_get (D := (dC, dI)) (ci := 13) (v := .ref q_3) (C := RX11) (T := TX11) (N := 13) hx hb hts hiX11 hown hK hP 0 rfl rfl 1 (by decide) hf18 (fun _ h9 => h9) rfl dX11_init_146 ?_
  refine lv_iload_n hx hb dX11_init_149 rfl (lv_at hl 0 rfl) ?_
  refine va_new (ci := 11) (fs := [.null, .int 0]) (C := RX9) (T := TX9) (N := 2) hx hb hts hiX9 tyX9 tyX9_ok hown hcl16 hinX9 hiniX9 hK hP hD hS hA rfl (fun j hj => by rcases (show j = 0 ∨ j = 1 by omega) with rfl | rfl <;> rfl) (Nat.le_of_ble_eq_true rfl) (Nat.le_of_ble_eq_true rfl) dX11_init_150 (fun q_46 H_46 hP hD hS => ?_)
  have hP : va_P (dC, dI) vwCl (([(t, .inr (13, [.ref q_1, .ref q_3, .ref q_5, .ref q_7, .ref q_9, .ref q_11, .ref q_13, .ref q_15, .ref q_17, .ref q_19, .ref q_21, .ref q_23, .int 0])), (q_3, .inl (g 1, 8, .inr (.inr (.inr (.inr (va_up (va_up (va_up (va_up (va_up (fun _ => none) 0 (some q_26)) 1 (some q_30)) 2 (some q_34)) 3 (some q_38)) 4 (some q_42))))))), (q_5, .inl (g 1, 8, .inr (.inr (.inr (.inr (va_up (va_up (va_up (va_up (va_up (fun _ => none) 0 (some q_28)) 1 (some q_32)) 2 (some q_36)) 3 (some q_40)) 4 (some q_44)))))))] ++ Y20) ++ [(q_46, .inr (11, [.null, .int 0]))]) H_46 := hP
  have hD : va_D A (([(t, .inr (13, [.ref q_1, .ref q_3, .ref q_5, .ref q_7, .ref q_9, .ref q_11, .ref q_13, .ref q_15, .ref q_17, .ref q_19, .ref q_21, .ref q_23, .int 0])), (q_3, .inl (g 1, 8, .inr (.inr (.inr (.inr (va_up (va_up (va_up (va_up (va_up (fun _ => none) 0 (some q_26)) 1 (some q_30)) 2 (some q_34)) 3 (some q_38)) 4 (some q_42))))))), (q_5, .inl (g 1, 8, .inr (.inr (.inr (.inr (va_up (va_up (va_up (va_up (va_up (fun _ => none) 0 (some q_28)) 1 (some q_32)) 2 (some q_36)) 3 (some q_40)) 4 (some q_44)))))))] ++ Y20) ++ [(q_46, .inr (11, [.null, .int 0]))]) := hD
  refine W.widen (k := 128) (n := 10073) (by omega) (by omega) ?_
  refine lv_dup hx hb dX11_init_153 rfl ?_
  have hPc := P_r hP
  have hDc := D_r hD
  have hFc : ∀ q, va_A [(q_46, .inr (11, [.null, .int 0]))] H_46.size q → A q := A_all hDc hA hS.1
  refine va_callv (va_runIN (As := []) (rest := [.ref q_46, .int 5, .ref q_3]) ⟨hx, hb, hml, hown, hts⟩ (c_X9_init l dC dI g q_46 H_46.size) ⟨va_cnB 0 hts gX11_init_X9_init_n25 rfl rfl rfl (mnl_1 hG) hiniX9 (by decide +kernel) ⟨Nat.le_of_ble_eq_true rfl, Nat.le_of_ble_eq_true rfl⟩, rfl, himX9_init⟩ ⟨PG_blind, PG_call hK hG hS hPc hDc hFc⟩ rfl rfl hl.1 rfl (lv_room (Nat.le_of_ble_eq_true rfl)) dX11_init_154 ⟨Nat.le_of_ble_eq_true rfl, Nat.le_of_ble_eq_true rfl⟩) hS (fun q _ h => hFc q h) hFc (fun u_46 t_46 J_46 L_46 ht_46 hvm_46 hw_46 hB_46 hz_46 hk_46 hS => ?_)
  obtain ⟨hP1, hD1⟩ := hB_46
  rw [ht_46] at hP1
  obtain ⟨hP, hD⟩ := join_r hP hD hk_46 hFc hP1 hD1
  refine W.widen (k := 129) (n := 10173) (by omega) (by omega) ?_
  refine va_astq hx hb hK hP hD hS 1 1 ((([(t, .inr (13, [.ref q_1, .ref q_3, .ref q_5, .ref q_7, .ref q_9, .ref q_11, .ref q_13, .ref q_15, .ref q_17, .ref q_19, .ref q_21, .ref q_23, .int 0])), (q_3, .inl (g 1, 8, .inr (.inr (.inr (.inr (va_up (va_up (va_up (va_up (va_up (fun _ => none) 0 (some q_26)) 1 (some q_30)) 2 (some q_34)) 3 (some q_38)) 4 (some q_42))))))), (q_5, .inl (g 1, 8, .inr (.inr (.inr (.inr (va_up (va_up (va_up (va_up (va_up (fun _ => none) 0 (some q_28)) 1 (some q_32)) 2 (some q_36)) 3 (some q_40)) 4 (some q_44)))))))] : va_W) ++ Y20).length + 0) 11 rfl rfl (app_r (W1 := ([(t, .inr (13, [.ref q_1, .ref q_3, .ref q_5, .ref q_7, .ref q_9, .ref q_11, .ref q_13, .ref q_15, .ref q_17, .ref q_19, .ref q_21, .ref q_23, .int 0])), (q_3, .inl (g 1, 8, .inr (.inr (.inr (.inr (va_up (va_up (va_up (va_up (va_up (fun _ => none) 0 (some q_26)) 1 (some q_30)) 2 (some q_34)) 3 (some q_38)) 4 (some q_42))))))), (q_5, .inl (g 1, 8, .inr (.inr (.inr (.inr (va_up (va_up (va_up (va_up (va_up (fun _ => none) 0 (some q_28)) 1 (some q_32)) 2 (some q_36)) 3 (some q_40)) 4 (some q_44)))))))] : va_W) ++ Y20) (k := 0) rfl) rfl (by unfold vp_in; decide) dX11_init_157 (fun I_47 L_47 hP hD hS => ?_)
  obtain ⟨Y21, hY21⟩ : ∃ Z : va_W, Z = Y20 ++ [(q_46, .inr (11, [.ref (u_46 0), .int 0])), ((u_46 0), .inl (g 0, 100, .inl (fun _ => 0)))] := ⟨_, rfl⟩
  have hP : va_P (dC, dI) vwCl ([(t, .inr (13, [.ref q_1, .ref q_3, .ref q_5, .ref q_7, .ref q_9, .ref q_11, .ref q_13, .ref q_15, .ref q_17, .ref q_19, .ref q_21, .ref q_23, .int 0])), (q_3, .inl (g 1, 8, .inr (.inr (.inr (.inr (va_up (va_up (va_up (va_up (va_up (va_up (fun _ => none) 0 (some q_26)) 1 (some q_30)) 2 (some q_34)) 3 (some q_38)) 4 (some q_42)) 5 (some q_46))))))), (q_5, .inl (g 1, 8, .inr (.inr (.inr (.inr (va_up (va_up (va_up (va_up (va_up (fun _ => none) 0 (some q_28)) 1 (some q_32)) 2 (some q_36)) 3 (some q_40)) 4 (some q_44)))))))] ++ Y21) I_47 := by rw [hY21]; exact hP
  have hD : va_D A ([(t, .inr (13, [.ref q_1, .ref q_3, .ref q_5, .ref q_7, .ref q_9, .ref q_11, .ref q_13, .ref q_15, .ref q_17, .ref q_19, .ref q_21, .ref q_23, .int 0])), (q_3, .inl (g 1, 8, .inr (.inr (.inr (.inr (va_up (va_up (va_up (va_up (va_up (va_up (fun _ => none) 0 (some q_26)) 1 (some q_30)) 2 (some q_34)) 3 (some q_38)) 4 (some q_42)) 5 (some q_46))))))), (q_5, .inl (g 1, 8, .inr (.inr (.inr (.inr (va_up (va_up (va_up (va_up (va_up (fun _ => none) 0 (some q_28)) 1 (some q_32)) 2 (some q_36)) 3 (some q_40)) 4 (some q_44)))))))] ++ Y21) := by rw [hY21]; exact hD
  refine lv_aload_n hx hb dX11_init_158 rfl (lv_at hl 1 rfl) ?_
  refine va_get (D := (dC, dI)) (ci := 13) (v := .ref q_5) (C := RX11) (T := TX11) (N := 13) hx hb hts hiX11 hown hK hP 0 rfl rfl 2 (by decide) hf22 (fun _ h9 => h9) rfl dX11_init_159 ?_
  refine lv_iload_n hx hb dX11_init_162 rfl (lv_at hl 0 rfl) ?_
  refine va_new (ci := 11) (fs := [.null, .int 0]) (C := RX9) (T := TX9) (N := 2) hx hb hts hiX9 tyX9 tyX9_ok hown hcl16 hinX9 hiniX9 hK hP hD hS hA rfl (fun j hj => by rcases (show j = 0 ∨ j = 1 by omega) with rfl | rfl <;> rfl) (Nat.le_of_ble_eq_true rfl) (Nat.le_of_ble_eq_true rfl) dX11_init_163 (fun q_48 H_48 hP hD hS => ?_)
  have hP : va_P (dC, dI) vwCl (([(t, .inr (13, [.ref q_1, .ref q_3, .ref q_5, .ref q_7, .ref q_9, .ref q_11, .ref q_13, .ref q_15, .ref q_17, .ref q_19, .ref q_21, .ref q_23, .int 0])), (q_3, .inl (g 1, 8, .inr (.inr (.inr (.inr (va_up (va_up (va_up (va_up (va_up (va_up (fun _ => none) 0 (some q_26)) 1 (some q_30)) 2 (some q_34)) 3 (some q_38)) 4 (some q_42)) 5 (some q_46))))))), (q_5, .inl (g 1, 8, .inr (.inr (.inr (.inr (va_up (va_up (va_up (va_up (va_up (fun _ => none) 0 (some q_28)) 1 (some q_32)) 2 (some q_36)) 3 (some q_40)) 4 (some q_44)))))))] ++ Y21) ++ [(q_48, .inr (11, [.null, .int 0]))]) H_48 := hP
  have hD : va_D A (([(t, .inr (13, [.ref q_1, .ref q_3, .ref q_5, .ref q_7, .ref q_9, .ref q_11, .ref q_13, .ref q_15, .ref q_17, .ref q_19, .ref q_21, .ref q_23, .int 0])), (q_3, .inl (g 1, 8, .inr (.inr (.inr (.inr (va_up (va_up (va_up (va_up (va_up (va_up (fun _ => none) 0 (some q_26)) 1 (some q_30)) 2 (some q_34)) 3 (some q_38)) 4 (some q_42)) 5 (some q_46))))))), (q_5, .inl (g 1, 8, .inr (.inr (.inr (.inr (va_up (va_up (va_up (va_up (va_up (fun _ => none) 0 (some q_28)) 1 (some q_32)) 2 (some q_36)) 3 (some q_40)) 4 (some q_44)))))))] ++ Y21) ++ [(q_48, .inr (11, [.null, .int 0]))]) := hD
  refine W.widen (k := 130) (n := 10175) (by omega) (by omega) ?_
  refine lv_dup hx hb dX11_init_166 rfl ?_
  have hPc := P_r hP
  have hDc := D_r hD
  have hFc : ∀ q, va_A [(q_48, .inr (11, [.null, .int 0]))] H_48.size q → A q := A_all hDc hA hS.1
  refine va_callv (va_runIN (As := []) (rest := [.ref q_48, .int 5, .ref q_5]) ⟨hx, hb, hml, hown, hts⟩ (c_X9_init l dC dI g q_48 H_48.size) ⟨va_cnB 0 hts gX11_init_X9_init_n25 rfl rfl rfl (mnl_1 hG) hiniX9 (by decide +kernel) ⟨Nat.le_of_ble_eq_true rfl, Nat.le_of_ble_eq_true rfl⟩, rfl, himX9_init⟩ ⟨PG_blind, PG_call hK hG hS hPc hDc hFc⟩ rfl rfl hl.1 rfl (lv_room (Nat.le_of_ble_eq_true rfl)) dX11_init_167 ⟨Nat.le_of_ble_eq_true rfl, Nat.le_of_ble_eq_true rfl⟩) hS (fun q _ h => hFc q h) hFc (fun u_48 t_48 J_48 L_48 ht_48 hvm_48 hw_48 hB_48 hz_48 hk_48 hS => ?_)
  obtain ⟨hP1, hD1⟩ := hB_48
  rw [ht_48] at hP1
  obtain ⟨hP, hD⟩ := join_r hP hD hk_48 hFc hP1 hD1
  refine W.widen (k := 131) (n := 10275) (by omega) (by omega) ?_
  refine va_astq hx hb hK hP hD hS 2 1 ((([(t, .inr (13, [.ref q_1, .ref q_3, .ref q_5, .ref q_7, .ref q_9, .ref q_11, .ref q_13, .ref q_15, .ref q_17, .ref q_19, .ref q_21, .ref q_23, .int 0])), (q_3, .inl (g 1, 8, .inr (.inr (.inr (.inr (va_up (va_up (va_up (va_up (va_up (va_up (fun _ => none) 0 (some q_26)) 1 (some q_30)) 2 (some q_34)) 3 (some q_38)) 4 (some q_42)) 5 (some q_46))))))), (q_5, .inl (g 1, 8, .inr (.inr (.inr (.inr (va_up (va_up (va_up (va_up (va_up (fun _ => none) 0 (some q_28)) 1 (some q_32)) 2 (some q_36)) 3 (some q_40)) 4 (some q_44)))))))] : va_W) ++ Y21).length + 0) 11 rfl rfl (app_r (W1 := ([(t, .inr (13, [.ref q_1, .ref q_3, .ref q_5, .ref q_7, .ref q_9, .ref q_11, .ref q_13, .ref q_15, .ref q_17, .ref q_19, .ref q_21, .ref q_23, .int 0])), (q_3, .inl (g 1, 8, .inr (.inr (.inr (.inr (va_up (va_up (va_up (va_up (va_up (va_up (fun _ => none) 0 (some q_26)) 1 (some q_30)) 2 (some q_34)) 3 (some q_38)) 4 (some q_42)) 5 (some q_46))))))), (q_5, .inl (g 1, 8, .inr (.inr (.inr (.inr (va_up (va_up (va_up (va_up (va_up (fun _ => none) 0 (some q_28)) 1 (some q_32)) 2 (some q_36)) 3 (some q_40)) 4 (some q_44)))))))] : va_W) ++ Y21) (k := 0) rfl) rfl (by unfold vp_in; decide) dX11_init_170 (fun I_49 L_49 hP hD hS => ?_)
  obtain ⟨Y22, hY22⟩ : ∃ Z : va_W, Z = Y21 ++ [(q_48, .inr (11, [.ref (u_48 0), .int 0])), ((u_48 0), .inl (g 0, 100, .inl (fun _ => 0)))] := ⟨_, rfl⟩
  have hP : va_P (dC, dI) vwCl ([(t, .inr (13, [.ref q_1, .ref q_3, .ref q_5, .ref q_7, .ref q_9, .ref q_11, .ref q_13, .ref q_15, .ref q_17, .ref q_19, .ref q_21, .ref q_23, .int 0])), (q_3, .inl (g 1, 8, .inr (.inr (.inr (.inr (va_up (va_up (va_up (va_up (va_up (va_up (fun _ => none) 0 (some q_26)) 1 (some q_30)) 2 (some q_34)) 3 (some q_38)) 4 (some q_42)) 5 (some q_46))))))), (q_5, .inl (g 1, 8, .inr (.inr (.inr (.inr (va_up (va_up (va_up (va_up (va_up (va_up (fun _ => none) 0 (some q_28)) 1 (some q_32)) 2 (some q_36)) 3 (some q_40)) 4 (some q_44)) 5 (some q_48)))))))] ++ Y22) I_49 := by rw [hY22]; exact hP
  have hD : va_D A ([(t, .inr (13, [.ref q_1, .ref q_3, .ref q_5, .ref q_7, .ref q_9, .ref q_11, .ref q_13, .ref q_15, .ref q_17, .ref q_19, .ref q_21, .ref q_23, .int 0])), (q_3, .inl (g 1, 8, .inr (.inr (.inr (.inr (va_up (va_up (va_up (va_up (va_up (va_up (fun _ => none) 0 (some q_26)) 1 (some q_30)) 2 (some q_34)) 3 (some q_38)) 4 (some q_42)) 5 (some q_46))))))), (q_5, .inl (g 1, 8, .inr (.inr (.inr (.inr (va_up (va_up (va_up (va_up (va_up (va_up (fun _ => none) 0 (some q_28)) 1 (some q_32)) 2 (some q_36)) 3 (some q_40)) 4 (some q_44)) 5 (some q_48)))))))] ++ Y22) := by rw [hY22]; exact hD
  refine lv_iinc (v := 6) (lv' := [(1, .int 6), (0, .ref t)]) hx hb dX11_init_171 hl (k := 0) rfl (by decide) (by decide) rfl (fun ls hl => ?_)
  refine lv_goto (tgt := 139) hx hb dX11_init_174 (by decide) ?_
  refine lv_iload_n hx hb dX11_init_139 rfl (lv_at hl 0 rfl) ?_
  refine lv_bipush (v := 8) hx hb dX11_init_140 (by decide) ?_
  refine lv_icmp_ge (tgt := 177) hx hb dX11_init_142 (by decide) (fun c9 => absurd c9 (by decide)) (fun _ => ?_)
  refine lv_aload_n hx hb dX11_init_145 rfl (lv_at hl 1 rfl) ?_
  refine va_get (D := (dC, dI)) (ci := 13) (v := .ref q_3) (C := RX11) (T := TX11) (N := 13) hx hb hts hiX11 hown hK hP 0 rfl rfl 1 (by decide) hf18 (fun _ h9 => h9) rfl dX11_init_146 ?_
  refine lv_iload_n hx hb dX11_init_149 rfl (lv_at hl 0 rfl) ?_
  refine va_new (ci := 11) (fs := [.null, .int 0]) (C := RX9) (T := TX9) (N := 2) hx hb hts hiX9 tyX9 tyX9_ok hown hcl16 hinX9 hiniX9 hK hP hD hS hA rfl (fun j hj => by rcases (show j = 0 ∨ j = 1 by omega) with rfl | rfl <;> rfl) (Nat.le_of_ble_eq_true rfl) (Nat.le_of_ble_eq_true rfl) dX11_init_150 (fun q_50 H_50 hP hD hS => ?_)
  have hP : va_P (dC, dI) vwCl (([(t, .inr (13, [.ref q_1, .ref q_3, .ref q_5, .ref q_7, .ref q_9, .ref q_11, .ref q_13, .ref q_15, .ref q_17, .ref q_19, .ref q_21, .ref q_23, .int 0])), (q_3, .inl (g 1, 8, .inr (.inr (.inr (.inr (va_up (va_up (va_up (va_up (va_up (va_up (fun _ => none) 0 (some q_26)) 1 (some q_30)) 2 (some q_34)) 3 (some q_38)) 4 (some q_42)) 5 (some q_46))))))), (q_5, .inl (g 1, 8, .inr (.inr (.inr (.inr (va_up (va_up (va_up (va_up (va_up (va_up (fun _ => none) 0 (some q_28)) 1 (some q_32)) 2 (some q_36)) 3 (some q_40)) 4 (some q_44)) 5 (some q_48)))))))] ++ Y22) ++ [(q_50, .inr (11, [.null, .int 0]))]) H_50 := hP
  have hD : va_D A (([(t, .inr (13, [.ref q_1, .ref q_3, .ref q_5, .ref q_7, .ref q_9, .ref q_11, .ref q_13, .ref q_15, .ref q_17, .ref q_19, .ref q_21, .ref q_23, .int 0])), (q_3, .inl (g 1, 8, .inr (.inr (.inr (.inr (va_up (va_up (va_up (va_up (va_up (va_up (fun _ => none) 0 (some q_26)) 1 (some q_30)) 2 (some q_34)) 3 (some q_38)) 4 (some q_42)) 5 (some q_46))))))), (q_5, .inl (g 1, 8, .inr (.inr (.inr (.inr (va_up (va_up (va_up (va_up (va_up (va_up (fun _ => none) 0 (some q_28)) 1 (some q_32)) 2 (some q_36)) 3 (some q_40)) 4 (some q_44)) 5 (some q_48)))))))] ++ Y22) ++ [(q_50, .inr (11, [.null, .int 0]))]) := hD
  refine W.widen (k := 132) (n := 10277) (by omega) (by omega) ?_
  refine lv_dup hx hb dX11_init_153 rfl ?_
  have hPc := P_r hP
  have hDc := D_r hD
  have hFc : ∀ q, va_A [(q_50, .inr (11, [.null, .int 0]))] H_50.size q → A q := A_all hDc hA hS.1
  refine va_callv (va_runIN (As := []) (rest := [.ref q_50, .int 6, .ref q_3]) ⟨hx, hb, hml, hown, hts⟩ (c_X9_init l dC dI g q_50 H_50.size) ⟨va_cnB 0 hts gX11_init_X9_init_n25 rfl rfl rfl (mnl_1 hG) hiniX9 (by decide +kernel) ⟨Nat.le_of_ble_eq_true rfl, Nat.le_of_ble_eq_true rfl⟩, rfl, himX9_init⟩ ⟨PG_blind, PG_call hK hG hS hPc hDc hFc⟩ rfl rfl hl.1 rfl (lv_room (Nat.le_of_ble_eq_true rfl)) dX11_init_154 ⟨Nat.le_of_ble_eq_true rfl, Nat.le_of_ble_eq_true rfl⟩) hS (fun q _ h => hFc q h) hFc (fun u_50 t_50 J_50 L_50 ht_50 hvm_50 hw_50 hB_50 hz_50 hk_50 hS => ?_)
  obtain ⟨hP1, hD1⟩ := hB_50
  rw [ht_50] at hP1
  obtain ⟨hP, hD⟩ := join_r hP hD hk_50 hFc hP1 hD1
  refine W.widen (k := 133) (n := 10377) (by omega) (by omega) ?_
  refine va_astq hx hb hK hP hD hS 1 1 ((([(t, .inr (13, [.ref q_1, .ref q_3, .ref q_5, .ref q_7, .ref q_9, .ref q_11, .ref q_13, .ref q_15, .ref q_17, .ref q_19, .ref q_21, .ref q_23, .int 0])), (q_3, .inl (g 1, 8, .inr (.inr (.inr (.inr (va_up (va_up (va_up (va_up (va_up (va_up (fun _ => none) 0 (some q_26)) 1 (some q_30)) 2 (some q_34)) 3 (some q_38)) 4 (some q_42)) 5 (some q_46))))))), (q_5, .inl (g 1, 8, .inr (.inr (.inr (.inr (va_up (va_up (va_up (va_up (va_up (va_up (fun _ => none) 0 (some q_28)) 1 (some q_32)) 2 (some q_36)) 3 (some q_40)) 4 (some q_44)) 5 (some q_48)))))))] : va_W) ++ Y22).length + 0) 11 rfl rfl (app_r (W1 := ([(t, .inr (13, [.ref q_1, .ref q_3, .ref q_5, .ref q_7, .ref q_9, .ref q_11, .ref q_13, .ref q_15, .ref q_17, .ref q_19, .ref q_21, .ref q_23, .int 0])), (q_3, .inl (g 1, 8, .inr (.inr (.inr (.inr (va_up (va_up (va_up (va_up (va_up (va_up (fun _ => none) 0 (some q_26)) 1 (some q_30)) 2 (some q_34)) 3 (some q_38)) 4 (some q_42)) 5 (some q_46))))))), (q_5, .inl (g 1, 8, .inr (.inr (.inr (.inr (va_up (va_up (va_up (va_up (va_up (va_up (fun _ => none) 0 (some q_28)) 1 (some q_32)) 2 (some q_36)) 3 (some q_40)) 4 (some q_44)) 5 (some q_48)))))))] : va_W) ++ Y22) (k := 0) rfl) rfl (by unfold vp_in; decide) dX11_init_157 (fun I_51 L_51 hP hD hS => ?_)
  obtain ⟨Y23, hY23⟩ : ∃ Z : va_W, Z = Y22 ++ [(q_50, .inr (11, [.ref (u_50 0), .int 0])), ((u_50 0), .inl (g 0, 100, .inl (fun _ => 0)))] := ⟨_, rfl⟩
  have hP : va_P (dC, dI) vwCl ([(t, .inr (13, [.ref q_1, .ref q_3, .ref q_5, .ref q_7, .ref q_9, .ref q_11, .ref q_13, .ref q_15, .ref q_17, .ref q_19, .ref q_21, .ref q_23, .int 0])), (q_3, .inl (g 1, 8, .inr (.inr (.inr (.inr (va_up (va_up (va_up (va_up (va_up (va_up (va_up (fun _ => none) 0 (some q_26)) 1 (some q_30)) 2 (some q_34)) 3 (some q_38)) 4 (some q_42)) 5 (some q_46)) 6 (some q_50))))))), (q_5, .inl (g 1, 8, .inr (.inr (.inr (.inr (va_up (va_up (va_up (va_up (va_up (va_up (fun _ => none) 0 (some q_28)) 1 (some q_32)) 2 (some q_36)) 3 (some q_40)) 4 (some q_44)) 5 (some q_48)))))))] ++ Y23) I_51 := by rw [hY23]; exact hP
  have hD : va_D A ([(t, .inr (13, [.ref q_1, .ref q_3, .ref q_5, .ref q_7, .ref q_9, .ref q_11, .ref q_13, .ref q_15, .ref q_17, .ref q_19, .ref q_21, .ref q_23, .int 0])), (q_3, .inl (g 1, 8, .inr (.inr (.inr (.inr (va_up (va_up (va_up (va_up (va_up (va_up (va_up (fun _ => none) 0 (some q_26)) 1 (some q_30)) 2 (some q_34)) 3 (some q_38)) 4 (some q_42)) 5 (some q_46)) 6 (some q_50))))))), (q_5, .inl (g 1, 8, .inr (.inr (.inr (.inr (va_up (va_up (va_up (va_up (va_up (va_up (fun _ => none) 0 (some q_28)) 1 (some q_32)) 2 (some q_36)) 3 (some q_40)) 4 (some q_44)) 5 (some q_48)))))))] ++ Y23) := by rw [hY23]; exact hD
  refine lv_aload_n hx hb dX11_init_158 rfl (lv_at hl 1 rfl) ?_
  refine va_get (D := (dC, dI)) (ci := 13) (v := .ref q_5) (C := RX11) (T := TX11) (N := 13) hx hb hts hiX11 hown hK hP 0 rfl rfl 2 (by decide) hf22 (fun _ h9 => h9) rfl dX11_init_159 ?_
  refine lv_iload_n hx hb dX11_init_162 rfl (lv_at hl 0 rfl) ?_
  refine va_new (ci := 11) (fs := [.null, .int 0]) (C := RX9) (T := TX9) (N := 2) hx hb hts hiX9 tyX9 tyX9_ok hown hcl16 hinX9 hiniX9 hK hP hD hS hA rfl (fun j hj => by rcases (show j = 0 ∨ j = 1 by omega) with rfl | rfl <;> rfl) (Nat.le_of_ble_eq_true rfl) (Nat.le_of_ble_eq_true rfl) dX11_init_163 (fun q_52 H_52 hP hD hS => ?_)
  have hP : va_P (dC, dI) vwCl (([(t, .inr (13, [.ref q_1, .ref q_3, .ref q_5, .ref q_7, .ref q_9, .ref q_11, .ref q_13, .ref q_15, .ref q_17, .ref q_19, .ref q_21, .ref q_23, .int 0])), (q_3, .inl (g 1, 8, .inr (.inr (.inr (.inr (va_up (va_up (va_up (va_up (va_up (va_up (va_up (fun _ => none) 0 (some q_26)) 1 (some q_30)) 2 (some q_34)) 3 (some q_38)) 4 (some q_42)) 5 (some q_46)) 6 (some q_50))))))), (q_5, .inl (g 1, 8, .inr (.inr (.inr (.inr (va_up (va_up (va_up (va_up (va_up (va_up (fun _ => none) 0 (some q_28)) 1 (some q_32)) 2 (some q_36)) 3 (some q_40)) 4 (some q_44)) 5 (some q_48)))))))] ++ Y23) ++ [(q_52, .inr (11, [.null, .int 0]))]) H_52 := hP
  have hD : va_D A (([(t, .inr (13, [.ref q_1, .ref q_3, .ref q_5, .ref q_7, .ref q_9, .ref q_11, .ref q_13, .ref q_15, .ref q_17, .ref q_19, .ref q_21, .ref q_23, .int 0])), (q_3, .inl (g 1, 8, .inr (.inr (.inr (.inr (va_up (va_up (va_up (va_up (va_up (va_up (va_up (fun _ => none) 0 (some q_26)) 1 (some q_30)) 2 (some q_34)) 3 (some q_38)) 4 (some q_42)) 5 (some q_46)) 6 (some q_50))))))), (q_5, .inl (g 1, 8, .inr (.inr (.inr (.inr (va_up (va_up (va_up (va_up (va_up (va_up (fun _ => none) 0 (some q_28)) 1 (some q_32)) 2 (some q_36)) 3 (some q_40)) 4 (some q_44)) 5 (some q_48)))))))] ++ Y23) ++ [(q_52, .inr (11, [.null, .int 0]))]) := hD
  refine W.widen (k := 134) (n := 10379) (by omega) (by omega) ?_
  refine lv_dup hx hb dX11_init_166 rfl ?_
  have hPc := P_r hP
  have hDc := D_r hD
  have hFc : ∀ q, va_A [(q_52, .inr (11, [.null, .int 0]))] H_52.size q → A q := A_all hDc hA hS.1
  refine va_callv (va_runIN (As := []) (rest := [.ref q_52, .int 6, .ref q_5]) ⟨hx, hb, hml, hown, hts⟩ (c_X9_init l dC dI g q_52 H_52.size) ⟨va_cnB 0 hts gX11_init_X9_init_n25 rfl rfl rfl (mnl_1 hG) hiniX9 (by decide +kernel) ⟨Nat.le_of_ble_eq_true rfl, Nat.le_of_ble_eq_true rfl⟩, rfl, himX9_init⟩ ⟨PG_blind, PG_call hK hG hS hPc hDc hFc⟩ rfl rfl hl.1 rfl (lv_room (Nat.le_of_ble_eq_true rfl)) dX11_init_167 ⟨Nat.le_of_ble_eq_true rfl, Nat.le_of_ble_eq_true rfl⟩) hS (fun q _ h => hFc q h) hFc (fun u_52 t_52 J_52 L_52 ht_52 hvm_52 hw_52 hB_52 hz_52 hk_52 hS => ?_)
  obtain ⟨hP1, hD1⟩ := hB_52
  rw [ht_52] at hP1
  obtain ⟨hP, hD⟩ := join_r hP hD hk_52 hFc hP1 hD1
  refine W.widen (k := 135) (n := 10479) (by omega) (by omega) ?_
  refine va_astq hx hb hK hP hD hS 2 1 ((([(t, .inr (13, [.ref q_1, .ref q_3, .ref q_5, .ref q_7, .ref q_9, .ref q_11, .ref q_13, .ref q_15, .ref q_17, .ref q_19, .ref q_21, .ref q_23, .int 0])), (q_3, .inl (g 1, 8, .inr (.inr (.inr (.inr (va_up (va_up (va_up (va_up (va_up (va_up (va_up (fun _ => none) 0 (some q_26)) 1 (some q_30)) 2 (some q_34)) 3 (some q_38)) 4 (some q_42)) 5 (some q_46)) 6 (some q_50))))))), (q_5, .inl (g 1, 8, .inr (.inr (.inr (.inr (va_up (va_up (va_up (va_up (va_up (va_up (fun _ => none) 0 (some q_28)) 1 (some q_32)) 2 (some q_36)) 3 (some q_40)) 4 (some q_44)) 5 (some q_48)))))))] : va_W) ++ Y23).length + 0) 11 rfl rfl (app_r (W1 := ([(t, .inr (13, [.ref q_1, .ref q_3, .ref q_5, .ref q_7, .ref q_9, .ref q_11, .ref q_13, .ref q_15, .ref q_17, .ref q_19, .ref q_21, .ref q_23, .int 0])), (q_3, .inl (g 1, 8, .inr (.inr (.inr (.inr (va_up (va_up (va_up (va_up (va_up (va_up (va_up (fun _ => none) 0 (some q_26)) 1 (some q_30)) 2 (some q_34)) 3 (some q_38)) 4 (some q_42)) 5 (some q_46)) 6 (some q_50))))))), (q_5, .inl (g 1, 8, .inr (.inr (.inr (.inr (va_up (va_up (va_up (va_up (va_up (va_up (fun _ => none) 0 (some q_28)) 1 (some q_32)) 2 (some q_36)) 3 (some q_40)) 4 (some q_44)) 5 (some q_48)))))))] : va_W) ++ Y23) (k := 0) rfl) rfl (by unfold vp_in; decide) dX11_init_170 (fun I_53 L_53 hP hD hS => ?_)
  obtain ⟨Y24, hY24⟩ : ∃ Z : va_W, Z = Y23 ++ [(q_52, .inr (11, [.ref (u_52 0), .int 0])), ((u_52 0), .inl (g 0, 100, .inl (fun _ => 0)))] := ⟨_, rfl⟩
  have hP : va_P (dC, dI) vwCl ([(t, .inr (13, [.ref q_1, .ref q_3, .ref q_5, .ref q_7, .ref q_9, .ref q_11, .ref q_13, .ref q_15, .ref q_17, .ref q_19, .ref q_21, .ref q_23, .int 0])), (q_3, .inl (g 1, 8, .inr (.inr (.inr (.inr (va_up (va_up (va_up (va_up (va_up (va_up (va_up (fun _ => none) 0 (some q_26)) 1 (some q_30)) 2 (some q_34)) 3 (some q_38)) 4 (some q_42)) 5 (some q_46)) 6 (some q_50))))))), (q_5, .inl (g 1, 8, .inr (.inr (.inr (.inr (va_up (va_up (va_up (va_up (va_up (va_up (va_up (fun _ => none) 0 (some q_28)) 1 (some q_32)) 2 (some q_36)) 3 (some q_40)) 4 (some q_44)) 5 (some q_48)) 6 (some q_52)))))))] ++ Y24) I_53 := by rw [hY24]; exact hP
  have hD : va_D A ([(t, .inr (13, [.ref q_1, .ref q_3, .ref q_5, .ref q_7, .ref q_9, .ref q_11, .ref q_13, .ref q_15, .ref q_17, .ref q_19, .ref q_21, .ref q_23, .int 0])), (q_3, .inl (g 1, 8, .inr (.inr (.inr (.inr (va_up (va_up (va_up (va_up (va_up (va_up (va_up (fun _ => none) 0 (some q_26)) 1 (some q_30)) 2 (some q_34)) 3 (some q_38)) 4 (some q_42)) 5 (some q_46)) 6 (some q_50))))))), (q_5, .inl (g 1, 8, .inr (.inr (.inr (.inr (va_up (va_up (va_up (va_up (va_up (va_up (va_up (fun _ => none) 0 (some q_28)) 1 (some q_32)) 2 (some q_36)) 3 (some q_40)) 4 (some q_44)) 5 (some q_48)) 6 (some q_52)))))))] ++ Y24) := by rw [hY24]; exact hD
  refine lv_iinc (v := 7) (lv' := [(1, .int 7), (0, .ref t)]) hx hb dX11_init_171 hl (k := 0) rfl (by decide) (by decide) rfl (fun ls hl => ?_)
  refine lv_goto (tgt := 139) hx hb dX11_init_174 (by decide) ?_
  refine lv_iload_n hx hb dX11_init_139 rfl (lv_at hl 0 rfl) ?_
  refine lv_bipush (v := 8) hx hb dX11_init_140 (by decide) ?_
  refine lv_icmp_ge (tgt := 177) hx hb dX11_init_142 (by decide) (fun c9 => absurd c9 (by decide)) (fun _ => ?_)
  refine lv_aload_n hx hb dX11_init_145 rfl (lv_at hl 1 rfl) ?_
  refine va_get (D := (dC, dI)) (ci := 13) (v := .ref q_3) (C := RX11) (T := TX11) (N := 13) hx hb hts hiX11 hown hK hP 0 rfl rfl 1 (by decide) hf18 (fun _ h9 => h9) rfl dX11_init_146 ?_
  refine lv_iload_n hx hb dX11_init_149 rfl (lv_at hl 0 rfl) ?_
  refine va_new (ci := 11) (fs := [.null, .int 0]) (C := RX9) (T := TX9) (N := 2) hx hb hts hiX9 tyX9 tyX9_ok hown hcl16 hinX9 hiniX9 hK hP hD hS hA rfl (fun j hj => by rcases (show j = 0 ∨ j = 1 by omega) with rfl | rfl <;> rfl) (Nat.le_of_ble_eq_true rfl) (Nat.le_of_ble_eq_true rfl) dX11_init_150 (fun q_54 H_54 hP hD hS => ?_)
  have hP : va_P (dC, dI) vwCl (([(t, .inr (13, [.ref q_1, .ref q_3, .ref q_5, .ref q_7, .ref q_9, .ref q_11, .ref q_13, .ref q_15, .ref q_17, .ref q_19, .ref q_21, .ref q_23, .int 0])), (q_3, .inl (g 1, 8, .inr (.inr (.inr (.inr (va_up (va_up (va_up (va_up (va_up (va_up (va_up (fun _ => none) 0 (some q_26)) 1 (some q_30)) 2 (some q_34)) 3 (some q_38)) 4 (some q_42)) 5 (some q_46)) 6 (some q_50))))))), (q_5, .inl (g 1, 8, .inr (.inr (.inr (.inr (va_up (va_up (va_up (va_up (va_up (va_up (va_up (fun _ => none) 0 (some q_28)) 1 (some q_32)) 2 (some q_36)) 3 (some q_40)) 4 (some q_44)) 5 (some q_48)) 6 (some q_52)))))))] ++ Y24) ++ [(q_54, .inr (11, [.null, .int 0]))]) H_54 := hP
  have hD : va_D A (([(t, .inr (13, [.ref q_1, .ref q_3, .ref q_5, .ref q_7, .ref q_9, .ref q_11, .ref q_13, .ref q_15, .ref q_17, .ref q_19, .ref q_21, .ref q_23, .int 0])), (q_3, .inl (g 1, 8, .inr (.inr (.inr (.inr (va_up (va_up (va_up (va_up (va_up (va_up (va_up (fun _ => none) 0 (some q_26)) 1 (some q_30)) 2 (some q_34)) 3 (some q_38)) 4 (some q_42)) 5 (some q_46)) 6 (some q_50))))))), (q_5, .inl (g 1, 8, .inr (.inr (.inr (.inr (va_up (va_up (va_up (va_up (va_up (va_up (va_up (fun _ => none) 0 (some q_28)) 1 (some q_32)) 2 (some q_36)) 3 (some q_40)) 4 (some q_44)) 5 (some q_48)) 6 (some q_52)))))))] ++ Y24) ++ [(q_54, .inr (11, [.null, .int 0]))]) := hD
  refine W.widen (k := 136) (n := 10481) (by omega) (by omega) ?_
  refine lv_dup hx hb dX11_init_153 rfl ?_
  have hPc := P_r hP
  have hDc := D_r hD
  have hFc : ∀ q, va_A [(q_54, .inr (11, [.null, .int 0]))] H_54.size q → A q := A_all hDc hA hS.1
  refine va_callv (va_runIN (As := []) (rest := [.ref q_54, .int 7, .ref q_3]) ⟨hx, hb, hml, hown, hts⟩ (c_X9_init l dC dI g q_54 H_54.size) ⟨va_cnB 0 hts gX11_init_X9_init_n25 rfl rfl rfl (mnl_1 hG) hiniX9 (by decide +kernel) ⟨Nat.le_of_ble_eq_true rfl, Nat.le_of_ble_eq_true rfl⟩, rfl, himX9_init⟩ ⟨PG_blind, PG_call hK hG hS hPc hDc hFc⟩ rfl rfl hl.1 rfl (lv_room (Nat.le_of_ble_eq_true rfl)) dX11_init_154 ⟨Nat.le_of_ble_eq_true rfl, Nat.le_of_ble_eq_true rfl⟩) hS (fun q _ h => hFc q h) hFc (fun u_54 t_54 J_54 L_54 ht_54 hvm_54 hw_54 hB_54 hz_54 hk_54 hS => ?_)
  obtain ⟨hP1, hD1⟩ := hB_54
  rw [ht_54] at hP1
  obtain ⟨hP, hD⟩ := join_r hP hD hk_54 hFc hP1 hD1
  refine W.widen (k := 137) (n := 10581) (by omega) (by omega) ?_
  refine va_astq hx hb hK hP hD hS 1 1 ((([(t, .inr (13, [.ref q_1, .ref q_3, .ref q_5, .ref q_7, .ref q_9, .ref q_11, .ref q_13, .ref q_15, .ref q_17, .ref q_19, .ref q_21, .ref q_23, .int 0])), (q_3, .inl (g 1, 8, .inr (.inr (.inr (.inr (va_up (va_up (va_up (va_up (va_up (va_up (va_up (fun _ => none) 0 (some q_26)) 1 (some q_30)) 2 (some q_34)) 3 (some q_38)) 4 (some q_42)) 5 (some q_46)) 6 (some q_50))))))), (q_5, .inl (g 1, 8, .inr (.inr (.inr (.inr (va_up (va_up (va_up (va_up (va_up (va_up (va_up (fun _ => none) 0 (some q_28)) 1 (some q_32)) 2 (some q_36)) 3 (some q_40)) 4 (some q_44)) 5 (some q_48)) 6 (some q_52)))))))] : va_W) ++ Y24).length + 0) 11 rfl rfl (app_r (W1 := ([(t, .inr (13, [.ref q_1, .ref q_3, .ref q_5, .ref q_7, .ref q_9, .ref q_11, .ref q_13, .ref q_15, .ref q_17, .ref q_19, .ref q_21, .ref q_23, .int 0])), (q_3, .inl (g 1, 8, .inr (.inr (.inr (.inr (va_up (va_up (va_up (va_up (va_up (va_up (va_up (fun _ => none) 0 (some q_26)) 1 (some q_30)) 2 (some q_34)) 3 (some q_38)) 4 (some q_42)) 5 (some q_46)) 6 (some q_50))))))), (q_5, .inl (g 1, 8, .inr (.inr (.inr (.inr (va_up (va_up (va_up (va_up (va_up (va_up (va_up (fun _ => none) 0 (some q_28)) 1 (some q_32)) 2 (some q_36)) 3 (some q_40)) 4 (some q_44)) 5 (some q_48)) 6 (some q_52)))))))] : va_W) ++ Y24) (k := 0) rfl) rfl (by unfold vp_in; decide) dX11_init_157 (fun I_55 L_55 hP hD hS => ?_)
  obtain ⟨Y25, hY25⟩ : ∃ Z : va_W, Z = Y24 ++ [(q_54, .inr (11, [.ref (u_54 0), .int 0])), ((u_54 0), .inl (g 0, 100, .inl (fun _ => 0)))] := ⟨_, rfl⟩
  have hP : va_P (dC, dI) vwCl ([(t, .inr (13, [.ref q_1, .ref q_3, .ref q_5, .ref q_7, .ref q_9, .ref q_11, .ref q_13, .ref q_15, .ref q_17, .ref q_19, .ref q_21, .ref q_23, .int 0])), (q_3, .inl (g 1, 8, .inr (.inr (.inr (.inr (va_up (va_up (va_up (va_up (va_up (va_up (va_up (va_up (fun _ => none) 0 (some q_26)) 1 (some q_30)) 2 (some q_34)) 3 (some q_38)) 4 (some q_42)) 5 (some q_46)) 6 (some q_50)) 7 (some q_54))))))), (q_5, .inl (g 1, 8, .inr (.inr (.inr (.inr (va_up (va_up (va_up (va_up (va_up (va_up (va_up (fun _ => none) 0 (some q_28)) 1 (some q_32)) 2 (some q_36)) 3 (some q_40)) 4 (some q_44)) 5 (some q_48)) 6 (some q_52)))))))] ++ Y25) I_55 := by rw [hY25]; exact hP
  have hD : va_D A ([(t, .inr (13, [.ref q_1, .ref q_3, .ref q_5, .ref q_7, .ref q_9, .ref q_11, .ref q_13, .ref q_15, .ref q_17, .ref q_19, .ref q_21, .ref q_23, .int 0])), (q_3, .inl (g 1, 8, .inr (.inr (.inr (.inr (va_up (va_up (va_up (va_up (va_up (va_up (va_up (va_up (fun _ => none) 0 (some q_26)) 1 (some q_30)) 2 (some q_34)) 3 (some q_38)) 4 (some q_42)) 5 (some q_46)) 6 (some q_50)) 7 (some q_54))))))), (q_5, .inl (g 1, 8, .inr (.inr (.inr (.inr (va_up (va_up (va_up (va_up (va_up (va_up (va_up (fun _ => none) 0 (some q_28)) 1 (some q_32)) 2 (some q_36)) 3 (some q_40)) 4 (some q_44)) 5 (some q_48)) 6 (some q_52)))))))] ++ Y25) := by rw [hY25]; exact hD
  refine lv_aload_n hx hb dX11_init_158 rfl (lv_at hl 1 rfl) ?_
  refine va_get (D := (dC, dI)) (ci := 13) (v := .ref q_5) (C := RX11) (T := TX11) (N := 13) hx hb hts hiX11 hown hK hP 0 rfl rfl 2 (by decide) hf22 (fun _ h9 => h9) rfl dX11_init_159 ?_
  refine lv_iload_n hx hb dX11_init_162 rfl (lv_at hl 0 rfl) ?_
  refine va_new (ci := 11) (fs := [.null, .int 0]) (C := RX9) (T := TX9) (N := 2) hx hb hts hiX9 tyX9 tyX9_ok hown hcl16 hinX9 hiniX9 hK hP hD hS hA rfl (fun j hj => by rcases (show j = 0 ∨ j = 1 by omega) with rfl | rfl <;> rfl) (Nat.le_of_ble_eq_true rfl) (Nat.le_of_ble_eq_true rfl) dX11_init_163 (fun q_56 H_56 hP hD hS => ?_)
  have hP : va_P (dC, dI) vwCl (([(t, .inr (13, [.ref q_1, .ref q_3, .ref q_5, .ref q_7, .ref q_9, .ref q_11, .ref q_13, .ref q_15, .ref q_17, .ref q_19, .ref q_21, .ref q_23, .int 0])), (q_3, .inl (g 1, 8, .inr (.inr (.inr (.inr (va_up (va_up (va_up (va_up (va_up (va_up (va_up (va_up (fun _ => none) 0 (some q_26)) 1 (some q_30)) 2 (some q_34)) 3 (some q_38)) 4 (some q_42)) 5 (some q_46)) 6 (some q_50)) 7 (some q_54))))))), (q_5, .inl (g 1, 8, .inr (.inr (.inr (.inr (va_up (va_up (va_up (va_up (va_up (va_up (va_up (fun _ => none) 0 (some q_28)) 1 (some q_32)) 2 (some q_36)) 3 (some q_40)) 4 (some q_44)) 5 (some q_48)) 6 (some q_52)))))))] ++ Y25) ++ [(q_56, .inr (11, [.null, .int 0]))]) H_56 := hP
  have hD : va_D A (([(t, .inr (13, [.ref q_1, .ref q_3, .ref q_5, .ref q_7, .ref q_9, .ref q_11, .ref q_13, .ref q_15, .ref q_17, .ref q_19, .ref q_21, .ref q_23, .int 0])), (q_3, .inl (g 1, 8, .inr (.inr (.inr (.inr (va_up (va_up (va_up (va_up (va_up (va_up (va_up (va_up (fun _ => none) 0 (some q_26)) 1 (some q_30)) 2 (some q_34)) 3 (some q_38)) 4 (some q_42)) 5 (some q_46)) 6 (some q_50)) 7 (some q_54))))))), (q_5, .inl (g 1, 8, .inr (.inr (.inr (.inr (va_up (va_up (va_up (va_up (va_up (va_up (va_up (fun _ => none) 0 (some q_28)) 1 (some q_32)) 2 (some q_36)) 3 (some q_40)) 4 (some q_44)) 5 (some q_48)) 6 (some q_52)))))))] ++ Y25) ++ [(q_56, .inr (11, [.null, .int 0]))]) := hD
  refine W.widen (k := 138) (n := 10583) (by omega) (by omega) ?_
  refine lv_dup hx hb dX11_init_166 rfl ?_
  have hPc := P_r hP
  have hDc := D_r hD
  have hFc : ∀ q, va_A [(q_56, .inr (11, [.null, .int 0]))] H_56.size q → A q := A_all hDc hA hS.1
  refine va_callv (va_runIN (As := []) (rest := [.ref q_56, .int 7, .ref q_5]) ⟨hx, hb, hml, hown, hts⟩ (c_X9_init l dC dI g q_56 H_56.size) ⟨va_cnB 0 hts gX11_init_X9_init_n25 rfl rfl rfl (mnl_1 hG) hiniX9 (by decide +kernel) ⟨Nat.le_of_ble_eq_true rfl, Nat.le_of_ble_eq_true rfl⟩, rfl, himX9_init⟩ ⟨PG_blind, PG_call hK hG hS hPc hDc hFc⟩ rfl rfl hl.1 rfl (lv_room (Nat.le_of_ble_eq_true rfl)) dX11_init_167 ⟨Nat.le_of_ble_eq_true rfl, Nat.le_of_ble_eq_true rfl⟩) hS (fun q _ h => hFc q h) hFc (fun u_56 t_56 J_56 L_56 ht_56 hvm_56 hw_56 hB_56 hz_56 hk_56 hS => ?_)
  obtain ⟨hP1, hD1⟩ := hB_56
  rw [ht_56] at hP1
  obtain ⟨hP, hD⟩ := join_r hP hD hk_56 hFc hP1 hD1
  refine W.widen (k := 139) (n := 10683) (by omega) (by omega) ?_
  refine va_astq hx hb hK hP hD hS 2 1 ((([(t, .inr (13, [.ref q_1, .ref q_3, .ref q_5, .ref q_7, .ref q_9, .ref q_11, .ref q_13, .ref q_15, .ref q_17, .ref q_19, .ref q_21, .ref q_23, .int 0])), (q_3, .inl (g 1, 8, .inr (.inr (.inr (.inr (va_up (va_up (va_up (va_up (va_up (va_up (va_up (va_up (fun _ => none) 0 (some q_26)) 1 (some q_30)) 2 (some q_34)) 3 (some q_38)) 4 (some q_42)) 5 (some q_46)) 6 (some q_50)) 7 (some q_54))))))), (q_5, .inl (g 1, 8, .inr (.inr (.inr (.inr (va_up (va_up (va_up (va_up (va_up (va_up (va_up (fun _ => none) 0 (some q_28)) 1 (some q_32)) 2 (some q_36)) 3 (some q_40)) 4 (some q_44)) 5 (some q_48)) 6 (some q_52)))))))] : va_W) ++ Y25).length + 0) 11 rfl rfl (app_r (W1 := ([(t, .inr (13, [.ref q_1, .ref q_3, .ref q_5, .ref q_7, .ref q_9, .ref q_11, .ref q_13, .ref q_15, .ref q_17, .ref q_19, .ref q_21, .ref q_23, .int 0])), (q_3, .inl (g 1, 8, .inr (.inr (.inr (.inr (va_up (va_up (va_up (va_up (va_up (va_up (va_up (va_up (fun _ => none) 0 (some q_26)) 1 (some q_30)) 2 (some q_34)) 3 (some q_38)) 4 (some q_42)) 5 (some q_46)) 6 (some q_50)) 7 (some q_54))))))), (q_5, .inl (g 1, 8, .inr (.inr (.inr (.inr (va_up (va_up (va_up (va_up (va_up (va_up (va_up (fun _ => none) 0 (some q_28)) 1 (some q_32)) 2 (some q_36)) 3 (some q_40)) 4 (some q_44)) 5 (some q_48)) 6 (some q_52)))))))] : va_W) ++ Y25) (k := 0) rfl) rfl (by unfold vp_in; decide) dX11_init_170 (fun I_57 L_57 hP hD hS => ?_)
  obtain ⟨Y26, hY26⟩ : ∃ Z : va_W, Z = Y25 ++ [(q_56, .inr (11, [.ref (u_56 0), .int 0])), ((u_56 0), .inl (g 0, 100, .inl (fun _ => 0)))] := ⟨_, rfl⟩
  have hP : va_P (dC, dI) vwCl ([(t, .inr (13, [.ref q_1, .ref q_3, .ref q_5, .ref q_7, .ref q_9, .ref q_11, .ref q_13, .ref q_15, .ref q_17, .ref q_19, .ref q_21, .ref q_23, .int 0])), (q_3, .inl (g 1, 8, .inr (.inr (.inr (.inr (va_up (va_up (va_up (va_up (va_up (va_up (va_up (va_up (fun _ => none) 0 (some q_26)) 1 (some q_30)) 2 (some q_34)) 3 (some q_38)) 4 (some q_42)) 5 (some q_46)) 6 (some q_50)) 7 (some q_54))))))), (q_5, .inl (g 1, 8, .inr (.inr (.inr (.inr (va_up (va_up (va_up (va_up (va_up (va_up (va_up (va_up (fun _ => none) 0 (some q_28)) 1 (some q_32)) 2 (some q_36)) 3 (some q_40)) 4 (some q_44)) 5 (some q_48)) 6 (some q_52)) 7 (some q_56)))))))] ++ Y26) I_57 := by rw [hY26]; exact hP
  have hD : va_D A ([(t, .inr (13, [.ref q_1, .ref q_3, .ref q_5, .ref q_7, .ref q_9, .ref q_11, .ref q_13, .ref q_15, .ref q_17, .ref q_19, .ref q_21, .ref q_23, .int 0])), (q_3, .inl (g 1, 8, .inr (.inr (.inr (.inr (va_up (va_up (va_up (va_up (va_up (va_up (va_up (va_up (fun _ => none) 0 (some q_26)) 1 (some q_30)) 2 (some q_34)) 3 (some q_38)) 4 (some q_42)) 5 (some q_46)) 6 (some q_50)) 7 (some q_54))))))), (q_5, .inl (g 1, 8, .inr (.inr (.inr (.inr (va_up (va_up (va_up (va_up (va_up (va_up (va_up (va_up (fun _ => none) 0 (some q_28)) 1 (some q_32)) 2 (some q_36)) 3 (some q_40)) 4 (some q_44)) 5 (some q_48)) 6 (some q_52)) 7 (some q_56)))))))] ++ Y26) := by rw [hY26]; exact hD
  refine lv_iinc (v := 8) (lv' := [(1, .int 8), (0, .ref t)]) hx hb dX11_init_171 hl (k := 0) rfl (by decide) (by decide) rfl (fun ls hl => ?_)
  refine lv_goto (tgt := 139) hx hb dX11_init_174 (by decide) ?_
  refine lv_iload_n hx hb dX11_init_139 rfl (lv_at hl 0 rfl) ?_
  refine lv_bipush (v := 8) hx hb dX11_init_140 (by decide) ?_
  refine lv_icmp_ge (tgt := 177) hx hb dX11_init_142 (by decide) (fun _ => ?_) (fun c9 => absurd (by decide) c9)
  rw [hY26, hY25, hY24, hY23, hY22, hY21, hY20, hY19, hY18, hY17, hY16, hY15, hY14, hY13, hY12, hY11, hY10, hY9, hY8, hY7, hY6, hY5, hY4, hY3, hY2, hY1, hY0] at hP hD
  obtain ⟨u9, g9_0, hP9, hD9⟩ := off_fin (g := g) hP hD
  exact W.vret hx hb hr (fun t9 ht hW => ⟨⟨u9, rfl, trivial, ⟨g9_0, P_at ht hP9, hD9⟩⟩, hS.F ht⟩) hS.2.2 dX11_init_177
